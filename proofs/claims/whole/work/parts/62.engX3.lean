/-! Engines of the class: the calls -/
noncomputable def XN (E : aEnv) (ah : aHp) (A : Nat → Nat) (en : Nat) : Prop := (∀ j k, A j = A k → j = k) ∧ ∀ k, k < 81 + 11 * en → ∃ e, hg E ah (A k) = some e
noncomputable def enS (A : Nat → Nat) (S : Nat → aE) (en : Nat) (ax wh : Nat → Nat) (rx : Nat → Nat → Nat) (fg : Nat → Nat → Nat → Nat) (tu ms : Nat → Nat) (mq : Nat → Nat → Nat → Nat) : Prop :=
  en ≤ 4 ∧ S 2 = .inl (5, 4, .inr (.inr (.inr (.inr (fun i => if i < en then some (A (81 + 11 * i)) else none))))) ∧ ∀ e, e < en → tu e ≤ 1000 ∧ ∃ ei el, egR (ax e) (wh e) (rx e) (fg e) (mq e) (ms e) ei el ∧ ∀ q, q < 11 → S (81 + 11 * e + q) = eC A (81 + 11 * e) (ax e) (wh e) (lN (wt (rx e) (wh e))) (nI (ms e)) (nI (tu e)) ei el q
theorem eSt_id {A : Nat → Nat} {S : Nat → aE} {b ax wh : Nat} {al : Int64} {ms tu : Int32} {ei : Nat → Nat → Int32} {el : Nat → Nat → Int64} (h : ∀ q, q < 11 → S (b + q) = eC A b ax wh al ms tu ei el q) : eSt A S b ax wh al ms tu ei el = S := by
  funext k
  unfold eSt
  split
  · next z =>
    rw [← h (k - b) (by omega), Nat.add_sub_cancel' z.1]
  · rfl
section ENC
variable {E : aEnv} {c : Nat} {ah : aHp} {A : Nat → Nat} {S : Nat → aE} {tx sp : Nat} {hT tL st : Int32} {en : Nat} {ax wh : Nat → Nat} {rx : Nat → Nat → Nat} {fg : Nat → Nat → Nat → Nat} {tu ms : Nat → Nat} {mq : Nat → Nat → Nat → Nat}
theorem XN.O (h : XN E ah A en) : XO E ah A := ⟨h.1, fun k hk => h.2 k (by omega)⟩
theorem XN.B (h : XN E ah A en) {e : Nat} (he : e < en) : XB E ah A (81 + 11 * e) := ⟨h.1, fun q hq => h.2 _ (by omega)⟩
theorem enS.x (h : enS A S en ax wh rx fg tu ms mq) {e : aE} : enS A (su S 0 e) en ax wh rx fg tu ms mq := by
  refine ⟨h.1, by rw [su_ne (by decide)]; exact h.2.1, fun i hi => ?_⟩
  obtain ⟨h1, ei, el, h2, h3⟩ := h.2.2 i hi
  exact ⟨h1, ei, el, h2, fun q hq => by rw [su_ne (by omega)]; exact h3 q hq⟩
/-- an engine's cells have changed -/
theorem enS.up (h : enS A S en ax wh rx fg tu ms mq) {e : Nat} (he : e < en) {fg' : Nat → Nat → Nat} {tu' ms' : Nat} {mq' : Nat → Nat → Nat} {ei : Nat → Nat → Int32} {el : Nat → Nat → Int64} (ht : tu' ≤ 1000) (hg : egR (ax e) (wh e) (rx e) fg' mq' ms' ei el) : enS A (eSt A S (81 + 11 * e) (ax e) (wh e) (lN (wt (rx e) (wh e))) (nI ms') (nI tu') ei el) en ax wh rx (fnu fg e fg') (fnu tu e tu') (fnu ms e ms') (fnu mq e mq') := by
  refine ⟨h.1, by rw [eSt_o (by omega)]; exact h.2.1, fun i hi => ?_⟩
  by_cases z : i = e
  · subst z
    simp only [fnu, if_true]
    exact ⟨ht, ei, el, hg, fun q hq => eSt_q hq⟩
  · obtain ⟨h1, ei, el, h2, h3⟩ := h.2.2 i hi
    simp only [fnu, z, if_false]
    exact ⟨h1, ei, el, h2, fun q hq => by rw [eSt_o (by omega)]; exact h3 q hq⟩
theorem c_engineAt (hN : XN E ah A en) (hX : S 0 = xO A tx sp hT (nI en) tL st) (h : enS A S en ax wh rx fg tu ms mq) {e : Nat} (he : e < en) : EV E c 183 [.ref (A 0), .int (nI e)] (oh E ah A S) (some (.ref (A (81 + 11 * e)))) (oh E ah A S) := by
  refine e183 ?_
  have h4 := h.1
  have hO := hN.O
  have h3 : hg E (oh E ah A S) (A 2) = some (.inl (5, 4, .inr (.inr (.inr (.inr (fun i => if i < en then some (A (81 + 11 * i)) else none)))))) := (hx_2 hO).trans (by rw [h.2.1])
  simp (disch := first | assumption | omega | decide | (simp only [List.length_cons, List.length_nil, Nat.reduceAdd, Nat.reduceLT]; done)) only [r183_0, r183_1, r183_4, r183_5, r183_6, r183_9, r183_12, r183_13, r183_16, hx_0 hO, hX, xO, oGF_is, WPo_some, List.getElem?_cons_succ, List.getElem?_cons_zero, kil_n, kil_i, kil_a, kil_u, kil_l, Option.toList_some, Option.toList_none, List.cons_append, List.nil_append, List.set_cons_succ, List.set_cons_zero, addm1, Nat.reduceAdd, List.length_cons, List.length_nil, Nat.reduceLT, nI_clamp, nI_toInt, nI_leL, nI_Lle, nI_ltL, nI_Llt, nI_eqL, nI_Leq, nI_leE, nI_ltE, nI_eqE, nI_eqM, nI_add, nI_addL, nI_Ladd, nI_mulL, nI_Lmul, pk_mul, pk_sub, nI_subL, nI_Lsub, i2l_nI, Int.toNat_natCast, Nat.not_lt_zero, Nat.zero_le, ifT, ifF, not_true_eq_false, not_false_eq_true, if_true, if_false, or_self, and_self, true_and, and_true, or_true, true_or, false_or, or_false, false_and, and_false, r183_17, gA_at h3 (by decide) (by decide) (vp_in_nI (show e < 4 by omega) (by omega))]
  simp only [va_rf, r183_18, r183_21, r183_22, r183_22n, not_true_eq_false, not_false_eq_true, if_true, if_false, or_self, and_self, true_and, and_true, or_true, true_or, false_or, or_false, false_and, and_false]
theorem c_engineAt_no (hN : XN E ah A en) (hX : S 0 = xO A tx sp hT (nI en) tL st) (h4 : en ≤ 4) {e : Int32} (he : ¬ (0 ≤ e.toInt ∧ e.toInt < en)) : EV E c 183 [.ref (A 0), .int e] (oh E ah A S) (some .null) (oh E ah A S) := by
  refine e183 ?_
  have hO := hN.O
  by_cases h1 : e < 0
  · simp only [r183_0, r183_1, h1, r183_21, r183_22, r183_22n, not_true_eq_false, not_false_eq_true, if_true, if_false, or_self, and_self, true_and, and_true, or_true, true_or, false_or, or_false, false_and, and_false]
  · have h2 : nI en ≤ e := by
      simp only [i32_lt, i32_le, i64_lt, i64_le, i2l_toInt, Int32.reduceToInt, Int64.reduceToInt] at h1 ⊢
      rw [nI_toInt (by omega)]
      omega
    simp (disch := first | assumption | omega | decide | (simp only [List.length_cons, List.length_nil, Nat.reduceAdd, Nat.reduceLT]; done)) only [r183_0, r183_1, r183_4, r183_5, r183_6, r183_9, hx_0 hO, hX, xO, oGF_is, WPo_some, List.getElem?_cons_succ, List.getElem?_cons_zero, kil_n, kil_i, kil_a, kil_u, kil_l, Option.toList_some, Option.toList_none, List.cons_append, List.nil_append, List.set_cons_succ, List.set_cons_zero, addm1, Nat.reduceAdd, List.length_cons, List.length_nil, Nat.reduceLT, h1, h2, r183_21, r183_22, r183_22n, not_true_eq_false, not_false_eq_true, if_true, if_false, or_self, and_self, true_and, and_true, or_true, true_or, false_or, or_false, false_and, and_false]
end ENC
section WST
variable {E : aEnv} {c b ax wh : Nat} {ah : aHp} {A : Nat → Nat} {S : Nat → aE} {al : Int64} {ms tu : Int32} {ei : Nat → Nat → Int32} {el : Nat → Nat → Int64}
theorem c_wheelSt (h : XB E ah A b) (ha : ax ≤ 7) (hw : wh ≤ 12) {x w : Int32} : EV E (c + 1) 189 [.ref (A b), .int x, .int w] (oh E ah A (eSt A S b ax wh al ms tu ei el)) (some (.int (if (0 ≤ x.toInt ∧ x.toInt < ax) ∧ 0 ≤ w.toInt ∧ w.toInt < wh then 0 else 2))) (oh E ah A (eSt A S b ax wh al ms tu ei el)) := by
  refine e189 ?_
  by_cases h1 : 0 ≤ x.toInt ∧ x.toInt < ax <;> by_cases h2 : 0 ≤ w.toInt ∧ w.toInt < wh <;>
  simp (disch := first | assumption | omega | decide | (simp only [List.length_cons, List.length_nil, Nat.reduceAdd, Nat.reduceLT]; done)) only [r189_0, r189_0n, r189_1, r189_1n, r189_4, r189_4n, r189_5, r189_9, r189_12, r189_12n, r189_13, r189_17, r189_20, r189_21, r189_24, r189_25, r189_26, r189_27, r189_30, r189_31, r189_34, r189_35, oGF_is, WPo_some, List.getElem?_cons_succ, List.getElem?_cons_zero, kil_n, kil_i, kil_a, kil_u, kil_l, Option.toList_some, Option.toList_none, List.cons_append, List.nil_append, List.set_cons_succ, List.set_cons_zero, addm1, Nat.reduceAdd, List.length_cons, List.length_nil, Nat.reduceLT, q189_6 (c_hasAxis h ha) h.ci, q189_14 (c_hasWheel h hw) h.ci, b2i_eq0, h1, h2, not_true_eq_false, not_false_eq_true, if_true, if_false, or_self, and_self, true_and, and_true, or_true, true_or, false_or, or_false, false_and, and_false, show ¬ (1 : Int32) = 0 by decide]
theorem c_wheelSt_no {ah : aHp} {x w : Int32} : EV E c 189 [.null, .int x, .int w] ah (some (.int 2)) ah := by
  refine e189n0 ?_
  simp only [r189_0, r189_0n, r189_1, r189_1n, r189_4, r189_4n, r189_5, r189_9, r189_12, r189_12n, r189_13, r189_17, r189_20, r189_21, r189_24, r189_25, r189_26, r189_27, r189_30, r189_31, r189_34, r189_35, oGF_is, WPo_some, List.getElem?_cons_succ, List.getElem?_cons_zero, kil_n, kil_i, kil_a, kil_u, kil_l, Option.toList_some, Option.toList_none, List.cons_append, List.nil_append, List.set_cons_succ, List.set_cons_zero, addm1, Nat.reduceAdd, List.length_cons, List.length_nil, Nat.reduceLT, not_true_eq_false, not_false_eq_true, if_true, if_false, or_self, and_self, true_and, and_true, or_true, true_or, false_or, or_false, false_and, and_false]
noncomputable def miSt (ax wh n : Nat) (t x w k : Int32) : Int32 := if ¬ ((0 ≤ x.toInt ∧ x.toInt < ax) ∧ 0 ≤ w.toInt ∧ w.toInt < wh) ∨ x.toInt = ax - 1 then 2 else if ¬ ((1 ≤ t.toInt ∧ t.toInt ≤ 1000) ∧ 0 ≤ k.toInt ∧ k.toInt ≤ 2) then 5 else if n = 20 then 7 else 0
theorem c_mishapSt (h : XB E ah A b) (ha : ax ≤ 7) (ha2 : 2 ≤ ax) (hw : wh ≤ 12) {n : Nat} (hn : n ≤ 20) {t x w k : Int32} : EV E (c + 2) 191 [.ref (A b), .int t, .int x, .int w, .int k] (oh E ah A (eSt A S b ax wh al (nI n) tu ei el)) (some (.int (miSt ax wh n t x w k))) (oh E ah A (eSt A S b ax wh al (nI n) tu ei el)) := by
  refine e191 ?_
  unfold miSt
  by_cases h1 : (0 ≤ x.toInt ∧ x.toInt < ax) ∧ 0 ≤ w.toInt ∧ w.toInt < wh
  · by_cases h2 : x.toInt = ax - 1
    · have h3 : 0 ≤ (ax : Int) - 1 := by omega
      have h4 : (ax : Int) - 1 < ax := by omega
      simp (disch := first | assumption | omega | decide | (simp only [List.length_cons, List.length_nil, Nat.reduceAdd, Nat.reduceLT]; done)) only [r191_0, r191_0n, r191_1, r191_2, r191_6, r191_8, r191_10, r191_13, r191_15, r191_16, r191_16n, r191_17, r191_21, r191_24, r191_25, r191_26, r191_27, r191_28, r191_31, r191_32, r191_35, r191_38, r191_40, r191_43, r191_45, r191_46, r191_49, r191_50, r191_51, r191_51n, r191_55, r191_58, r191_60, r191_63, r191_64, oGF_is, WPo_some, List.getElem?_cons_succ, List.getElem?_cons_zero, kil_n, kil_i, kil_a, kil_u, kil_l, Option.toList_some, Option.toList_none, List.cons_append, List.nil_append, List.set_cons_succ, List.set_cons_zero, addm1, Nat.reduceAdd, List.length_cons, List.length_nil, Nat.reduceLT, q191_3 (c_wheelSt h ha hw), q191_18 (c_isLast h ha ha2) h.ci, b2i_eq0, h1, h2, h3, h4, not_true_eq_false, not_false_eq_true, if_true, if_false, or_self, and_self, true_and, and_true, or_true, true_or, false_or, or_false, false_and, and_false]
    · simp (disch := first | assumption | omega | decide | (simp only [List.length_cons, List.length_nil, Nat.reduceAdd, Nat.reduceLT]; done)) only [r191_0, r191_0n, r191_1, r191_2, r191_6, r191_8, r191_10, r191_13, r191_15, r191_16, r191_16n, r191_17, r191_21, r191_24, r191_25, r191_26, r191_27, r191_28, r191_31, r191_32, r191_35, r191_38, r191_40, r191_43, r191_45, r191_46, r191_49, r191_50, r191_51, r191_51n, r191_55, r191_58, r191_60, r191_63, r191_64, oGF_is, WPo_some, List.getElem?_cons_succ, List.getElem?_cons_zero, kil_n, kil_i, kil_a, kil_u, kil_l, Option.toList_some, Option.toList_none, List.cons_append, List.nil_append, List.set_cons_succ, List.set_cons_zero, addm1, Nat.reduceAdd, List.length_cons, List.length_nil, Nat.reduceLT, q191_3 (c_wheelSt h ha hw), q191_18 (c_isLast h ha ha2) h.ci, q191_52 (c_misFull h hn) h.ci, b2i_eq0, h1, h2, not_true_eq_false, not_false_eq_true, if_true, if_false, or_self, and_self, true_and, and_true, or_true, true_or, false_or, or_false, false_and, and_false]
      simp only [i32_lt, i32_le, i64_lt, i64_le, i2l_toInt, Int32.reduceToInt, Int64.reduceToInt]
      repeat' split
      all_goals first | exact trivial | exact ⟨rfl, rfl⟩ | (exfalso; omega) | (exfalso; simp_all; done) | (simp_all; done)
  · simp (disch := first | assumption | omega | decide | (simp only [List.length_cons, List.length_nil, Nat.reduceAdd, Nat.reduceLT]; done)) only [r191_0, r191_0n, r191_1, r191_2, r191_6, r191_8, r191_10, r191_13, r191_15, r191_16, r191_16n, r191_17, r191_21, r191_24, r191_25, r191_26, r191_27, r191_28, r191_31, r191_32, r191_35, r191_38, r191_40, r191_43, r191_45, r191_46, r191_49, r191_50, r191_51, r191_51n, r191_55, r191_58, r191_60, r191_63, r191_64, oGF_is, WPo_some, List.getElem?_cons_succ, List.getElem?_cons_zero, kil_n, kil_i, kil_a, kil_u, kil_l, Option.toList_some, Option.toList_none, List.cons_append, List.nil_append, List.set_cons_succ, List.set_cons_zero, addm1, Nat.reduceAdd, List.length_cons, List.length_nil, Nat.reduceLT, q191_3 (c_wheelSt h ha hw), h1, not_true_eq_false, not_false_eq_true, if_true, if_false, or_self, and_self, true_and, and_true, or_true, true_or, false_or, or_false, false_and, and_false, show ¬ (2 : Int32) = 0 by decide]
theorem c_mishapSt_no {ah : aHp} {t x w k : Int32} : EV E (c + 1) 191 [.null, .int t, .int x, .int w, .int k] ah (some (.int 2)) ah := by
  refine e191n0 ?_
  simp only [r191_0, r191_0n, r191_1, r191_2, r191_6, r191_8, r191_10, r191_13, r191_15, r191_16, r191_16n, r191_17, r191_21, r191_24, r191_25, r191_26, r191_27, r191_28, r191_31, r191_32, r191_35, r191_38, r191_40, r191_43, r191_45, r191_46, r191_49, r191_50, r191_51, r191_51n, r191_55, r191_58, r191_60, r191_63, r191_64, oGF_is, WPo_some, List.getElem?_cons_succ, List.getElem?_cons_zero, kil_n, kil_i, kil_a, kil_u, kil_l, Option.toList_some, Option.toList_none, List.cons_append, List.nil_append, List.set_cons_succ, List.set_cons_zero, addm1, Nat.reduceAdd, List.length_cons, List.length_nil, Nat.reduceLT, q191_3n0 c_wheelSt_no, not_true_eq_false, not_false_eq_true, if_true, if_false, or_self, and_self, true_and, and_true, or_true, true_or, false_or, or_false, false_and, and_false, show ¬ (2 : Int32) = 0 by decide]
end WST

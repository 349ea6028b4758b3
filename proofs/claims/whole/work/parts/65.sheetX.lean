/-! Engines of the class: sheet -/
noncomputable def etSt (en : Nat) (sr : Nat → Int32) (mn : Nat → Nat) (e tray n : Int32) (top : Int) : Int32 := if ¬ (0 ≤ tray.toInt ∧ tray.toInt ≤ 3) then 1 else if ¬ (0 ≤ e.toInt ∧ e.toInt < en) then 2 else if sr tray.toInt.toNat = -1 then 3 else if ¬ (1 ≤ n.toInt ∧ n.toInt ≤ top) then 5 else if mn tray.toInt.toNat < n.toInt then 4 else 0
/-- a sheet in numbers: the row of the tray behind the turns -/
noncomputable def shF (axx whh : Nat) (r : Nat → Nat) (mq : Nat → Nat → Nat) (n : Nat) (s : Int32) : Nat → Nat → Nat → (Nat → Nat → Nat) → (Nat → Int64) → Nat → Int64
  | 0, _, _, _, N => N
  | z + 1, k, t, fg, N => shF axx whh r mq n s z (k + 1) (t + 1) (trn axx r mq n (t + 1) fg) (vp_updL N k (cutF s (lN (nmb r (trn axx r mq n (t + 1) fg 0) whh))))
section SHX
variable {E : aEnv} {c : Nat} {ah : aHp} {A : Nat → Nat} {S : Nat → aE} {tx sp : Nat} {hT tL st : Int32} {en : Nat} {ax wh : Nat → Nat} {rx : Nat → Nat → Nat} {fg : Nat → Nat → Nat → Nat} {tu ms : Nat → Nat} {mq : Nat → Nat → Nat → Nat} {sr : Nat → Int32} {mn : Nat → Nat} {tn : Nat → Nat → Int64}
theorem etSt_i {i j : Nat} (hi : i < en) (h4 : en ≤ 4) (hj : j < 4) {n : Int32} {top : Int} : etSt en sr mn (nI i) (nI j) n top = if sr j = -1 then 3 else if ¬ (1 ≤ n.toInt ∧ n.toInt ≤ top) then 5 else if mn j < n.toInt then 4 else 0 := by
  unfold etSt
  simp only [nI_toInt (show i < 2 ^ 31 by omega), nI_toInt (show j < 2 ^ 31 by omega), Int.toNat_natCast]
  rw [if_neg (by omega), if_neg (by omega)]
theorem etSt_0 (h4 : en ≤ 4) {e tray n : Int32} {top : Nat} (h60 : top ≤ 60) (h : etSt en sr mn e tray n top = 0) : ∃ i j k, i < en ∧ e = nI i ∧ j < 4 ∧ tray = nI j ∧ ¬ sr j = -1 ∧ n = nI k ∧ 1 ≤ k ∧ k ≤ top ∧ k ≤ mn j := by
  unfold etSt at h
  repeat' split at h
  all_goals first | (exfalso; revert h; decide) | skip
  rename_i h1 h2 h3 h5 h6
  obtain ⟨i, hi, rfl⟩ := i32_nat (x := e) (n := en) (by omega) (by omega)
  obtain ⟨j, hj, rfl⟩ := i32_nat (x := tray) (n := 4) (by omega) (by omega)
  obtain ⟨k, hk, rfl⟩ := i32_nat (x := n) (n := top + 1) (by omega) (by omega)
  rw [nI_toInt (show j < 2 ^ 31 by omega), Int.toNat_natCast] at h3 h6
  rw [nI_toInt (show k < 2 ^ 31 by omega)] at h5 h6
  exact ⟨i, j, k, hi, rfl, hj, rfl, h3, rfl, by omega, by omega, by omega⟩
theorem c_ets {p q a k : Nat} {s n top : Int32} {N : Nat → Int64} {ah : aHp} (h : TR E ah q a s k N) : EV E (c + 1) 190 [.ref p, .ref q, .int n, .int top] ah (some (.int (if s = -1 then 3 else if ¬ (1 ≤ n.toInt ∧ n.toInt ≤ top.toInt) then 5 else if k < n.toInt then 4 else 0))) ah := by
  refine e190 ?_
  have hk := h.2.2
  have h2 := nI_toInt (show k < 2 ^ 31 by omega)
  by_cases h1 : s = -1
  · simp (disch := first | assumption | omega | decide | (simp only [List.length_cons, List.length_nil, Nat.reduceAdd, Nat.reduceLT]; done)) only [r190_0, r190_0n, r190_1, r190_1n, r190_4, r190_5, r190_6, r190_6n, r190_7, r190_7n, r190_10, r190_11, r190_12, r190_12n, r190_16, r190_19, r190_20, r190_21, r190_22, r190_23, r190_26, r190_27, r190_28, r190_31, r190_32, r190_33, r190_33n, r190_37, r190_38, r190_41, r190_42, r190_45, r190_46, q190_13 (c_isMissing h) h.ci, oGF_is, WPo_some, List.getElem?_cons_succ, List.getElem?_cons_zero, kil_n, kil_i, kil_a, kil_u, kil_l, Option.toList_some, Option.toList_none, List.cons_append, List.nil_append, List.set_cons_succ, List.set_cons_zero, addm1, Nat.reduceAdd, List.length_cons, List.length_nil, Nat.reduceLT, b2i_eq0, h1, not_true_eq_false, not_false_eq_true, if_true, if_false, or_self, and_self, true_and, and_true, or_true, true_or, false_or, or_false, false_and, and_false]
  · simp (disch := first | assumption | omega | decide | (simp only [List.length_cons, List.length_nil, Nat.reduceAdd, Nat.reduceLT]; done)) only [r190_0, r190_0n, r190_1, r190_1n, r190_4, r190_5, r190_6, r190_6n, r190_7, r190_7n, r190_10, r190_11, r190_12, r190_12n, r190_16, r190_19, r190_20, r190_21, r190_22, r190_23, r190_26, r190_27, r190_28, r190_31, r190_32, r190_33, r190_33n, r190_37, r190_38, r190_41, r190_42, r190_45, r190_46, q190_13 (c_isMissing h) h.ci, q190_34 (c_length h) h.ci, oGF_is, WPo_some, List.getElem?_cons_succ, List.getElem?_cons_zero, kil_n, kil_i, kil_a, kil_u, kil_l, Option.toList_some, Option.toList_none, List.cons_append, List.nil_append, List.set_cons_succ, List.set_cons_zero, addm1, Nat.reduceAdd, List.length_cons, List.length_nil, Nat.reduceLT, b2i_eq0, h1, not_true_eq_false, not_false_eq_true, if_true, if_false, or_self, and_self, true_and, and_true, or_true, true_or, false_or, or_false, false_and, and_false]
    simp only [i32_lt, i32_le, i64_lt, i64_le, i2l_toInt, Int32.reduceToInt, Int64.reduceToInt, h2]
    repeat' split
    all_goals first | exact trivial | exact ⟨rfl, rfl⟩ | (exfalso; omega) | (exfalso; simp_all; done) | (simp_all; done)
theorem c_ets_n0 {q a k : Nat} {s n top : Int32} {N : Nat → Int64} {ah : aHp} (h : TR E ah q a s k N) : EV E (c + 1) 190 [.null, .ref q, .int n, .int top] ah (some (.int 2)) ah := by
  refine e190n0 ?_
  simp (disch := first | assumption | omega | decide | (simp only [List.length_cons, List.length_nil, Nat.reduceAdd, Nat.reduceLT]; done)) only [r190_0, r190_0n, r190_1, r190_1n, r190_4, r190_5, r190_6, r190_6n, r190_7, r190_7n, r190_10, r190_11, r190_12, r190_12n, r190_16, r190_19, r190_20, r190_21, r190_22, r190_23, r190_26, r190_27, r190_28, r190_31, r190_32, r190_33, r190_33n, r190_37, r190_38, r190_41, r190_42, r190_45, r190_46, oGF_is, WPo_some, List.getElem?_cons_succ, List.getElem?_cons_zero, kil_n, kil_i, kil_a, kil_u, kil_l, Option.toList_some, Option.toList_none, List.cons_append, List.nil_append, List.set_cons_succ, List.set_cons_zero, addm1, Nat.reduceAdd, List.length_cons, List.length_nil, Nat.reduceLT, not_true_eq_false, not_false_eq_true, if_true, if_false, or_self, and_self, true_and, and_true, or_true, true_or, false_or, or_false, false_and, and_false]
theorem c_ets_n1 {p : Nat} {n top : Int32} {ah : aHp} : EV E c 190 [.ref p, .null, .int n, .int top] ah (some (.int 1)) ah := by
  refine e190n1 ?_
  simp (disch := first | assumption | omega | decide | (simp only [List.length_cons, List.length_nil, Nat.reduceAdd, Nat.reduceLT]; done)) only [r190_0, r190_0n, r190_1, r190_1n, r190_4, r190_5, r190_6, r190_6n, r190_7, r190_7n, r190_10, r190_11, r190_12, r190_12n, r190_16, r190_19, r190_20, r190_21, r190_22, r190_23, r190_26, r190_27, r190_28, r190_31, r190_32, r190_33, r190_33n, r190_37, r190_38, r190_41, r190_42, r190_45, r190_46, oGF_is, WPo_some, List.getElem?_cons_succ, List.getElem?_cons_zero, kil_n, kil_i, kil_a, kil_u, kil_l, Option.toList_some, Option.toList_none, List.cons_append, List.nil_append, List.set_cons_succ, List.set_cons_zero, addm1, Nat.reduceAdd, List.length_cons, List.length_nil, Nat.reduceLT, not_true_eq_false, not_false_eq_true, if_true, if_false, or_self, and_self, true_and, and_true, or_true, true_or, false_or, or_false, false_and, and_false]
theorem c_ets_n {n top : Int32} {ah : aHp} : EV E c 190 [.null, .null, .int n, .int top] ah (some (.int 1)) ah := by
  refine e190n0n1 ?_
  simp (disch := first | assumption | omega | decide | (simp only [List.length_cons, List.length_nil, Nat.reduceAdd, Nat.reduceLT]; done)) only [r190_0, r190_0n, r190_1, r190_1n, r190_4, r190_5, r190_6, r190_6n, r190_7, r190_7n, r190_10, r190_11, r190_12, r190_12n, r190_16, r190_19, r190_20, r190_21, r190_22, r190_23, r190_26, r190_27, r190_28, r190_31, r190_32, r190_33, r190_33n, r190_37, r190_38, r190_41, r190_42, r190_45, r190_46, oGF_is, WPo_some, List.getElem?_cons_succ, List.getElem?_cons_zero, kil_n, kil_i, kil_a, kil_u, kil_l, Option.toList_some, Option.toList_none, List.cons_append, List.nil_append, List.set_cons_succ, List.set_cons_zero, addm1, Nat.reduceAdd, List.length_cons, List.length_nil, Nat.reduceLT, not_true_eq_false, not_false_eq_true, if_true, if_false, or_self, and_self, true_and, and_true, or_true, true_or, false_or, or_false, false_and, and_false]
theorem enS.fr (h : enS A S en ax wh rx fg tu ms mq) {S' : Nat → aE} (hS : ∀ q, q = 2 ∨ 81 ≤ q → S' q = S q) : enS A S' en ax wh rx fg tu ms mq := by
  refine ⟨h.1, by rw [hS 2 (by omega)]; exact h.2.1, fun i hi => ?_⟩
  obtain ⟨h1, ei, el, h2, h3⟩ := h.2.2 i hi
  exact ⟨h1, ei, el, h2, fun q hq => by rw [hS _ (by omega)]; exact h3 q hq⟩
theorem trS.fr (h : trS A S sr mn tn) {S' : Nat → aE} (hS : ∀ q, q = 1 ∨ (73 ≤ q ∧ q ≤ 80) → S' q = S q) : trS A S' sr mn tn := by
  refine ⟨by rw [hS 1 (by omega)]; exact h.1, fun j hj => ?_⟩
  obtain ⟨h1, h2, h3, h4⟩ := h.2 j hj
  exact ⟨by rw [hS _ (by omega)]; exact h1, by rw [hS _ (by omega)]; exact h2, h3, h4⟩
theorem eSt_su {b axx whh k : Nat} {al : Int64} {ms tu : Int32} {ei : Nat → Nat → Int32} {el : Nat → Nat → Int64} {e : aE} (hk : k < b) : su (eSt A S b axx whh al ms tu ei el) k e = eSt A (su S k e) b axx whh al ms tu ei el := by
  funext q
  unfold su eSt
  dsimp only
  by_cases z : q = k
  · rw [if_pos z, if_neg (by omega), if_pos z]
  · rw [if_neg z, if_neg z]
theorem fnu_fnu {α : Type} {f : Nat → α} {i : Nat} {x y : α} : fnu (fnu f i x) i y = fnu f i y := by
  funext j
  unfold fnu
  split <;> rfl
theorem fnu_at {α : Type} {f : Nat → α} {i : Nat} {x : α} : fnu f i x i = x := if_pos rfl
theorem l_sheet {b axx whh : Nat} {al : Int64} {r : Nat → Nat} {mq : Nat → Nat → Nat} {n N i : Nat} {el : Nat → Nat → Int64} (hO : XO E ah A) (h : XB E ah A b) (hb : 81 ≤ b) (hi : i < 4) (hN : N ≤ mn i) (hm : mn i ≤ 60) {a0 a1 a2 : Option Value} : ∀ z k t ei fg S tn, k + z = N → t + z ≤ 1000 → egR axx whh r fg mq n ei el → trS A S sr mn tn → ∃ ei' S', egR axx whh r (trnN axx r mq n z t fg) mq n ei' el ∧ trS A S' sr mn (fnu tn i (shF axx whh r mq n (sr i) z k t fg (tn i))) ∧ (∀ q, ¬ q = 74 + 2 * i → S' q = S q) ∧ WP E (c + 4) 158 62 [a0, a1, a2, some (.int (nI N)), some (.ref (A b)), some (.ref (A (73 + 2 * i))), some (.int (nI k))] [] (oh E ah A (eSt A S b axx whh al (nI n) (nI t) ei el)) (fun r1 x1 => r1 = some (.int 1) ∧ x1 = oh E ah A (eSt A S' b axx whh al (nI n) (nI (t + z)) ei' el))
  | 0, k, t, ei, fg, S, tn, hk, ht, hg, hs => by
    refine ⟨ei, S, hg, ?_, fun q hq => rfl, ?_⟩
    · unfold shF
      rw [fnu_self]
      exact hs
    rw [show k = N by omega]
    simp (disch := first | assumption | omega | decide | (simp only [List.length_cons, List.length_nil, Nat.reduceAdd, Nat.reduceLT]; done)) only [r158_62, r158_64, r158_65, r158_92, r158_93 (x := 0) (Or.inl rfl), r158_93 (x := 1) (Or.inr rfl), r158_93 (b2i_or _), oGF_is, WPo_some, List.getElem?_cons_succ, List.getElem?_cons_zero, kil_n, kil_i, kil_a, kil_u, kil_l, Option.toList_some, Option.toList_none, List.cons_append, List.nil_append, List.set_cons_succ, List.set_cons_zero, addm1, Nat.reduceAdd, List.length_cons, List.length_nil, Nat.reduceLT, nI_clamp, nI_toInt, nI_leL, nI_Lle, nI_ltL, nI_Llt, nI_eqL, nI_Leq, nI_leE, nI_ltE, nI_eqE, nI_eqM, nI_add, nI_addL, nI_Ladd, nI_mulL, nI_Lmul, pk_mul, pk_sub, nI_subL, nI_Lsub, i2l_nI, Int.toNat_natCast, Nat.not_lt_zero, Nat.zero_le, ifT, ifF, not_true_eq_false, not_false_eq_true, if_true, if_false, or_self, and_self, true_and, and_true, or_true, true_or, false_or, or_false, false_and, and_false]
    exact rfl
  | z + 1, k, t, ei, fg, S, tn, hk, ht, hg, hs => by
    obtain ⟨ei1, g1, e1⟩ := c_turnOnce (c := c) (S := S) (al := al) h hg (show t < 1000 by omega)
    have g0 := g1.1
    have hs1 : trS A (eSt A S b axx whh al (nI n) (nI (t + 1)) ei1 el) sr mn tn := hs.fr (fun q hq => eSt_o (by omega))
    have hT1 := hs1.TR hO hi
    have k1 := c_numberOn (c := c + 2) (S := S) (al := al) (ms := nI n) (tu := nI (t + 1)) (el := el) (ei := ei1) h g0.2.1 g0.2.2.2 (x := 0) (by omega) (rx := r) (f := trn axx r mq n (t + 1) fg 0) g1.2.2.1 (fun w hw => ⟨(g1.2.2.2.1 0 w (by omega) hw).1, Nat.lt_of_lt_of_le (g1.2.2.2.1 0 w (by omega) hw).2 (g1.2.1 w hw).2.2⟩)
    have k2 := c_lay (c := c + 2) hO hs1 (j := k) hi (by omega) (x := lN (nmb r (trn axx r mq n (t + 1) fg 0) whh))
    rw [eSt_su (by omega)] at k2
    obtain ⟨ei2, S2, g2, s2, f2, e2⟩ := l_sheet hO h hb hi hN hm z (k + 1) (t + 1) ei1 _ (su S (74 + 2 * i) (.inl (1, 60, .inr (.inl (vp_updL (tn i) k (cutF (sr i) (lN (nmb r (trn axx r mq n (t + 1) fg 0) whh)))))))) _ (by omega) (by omega) g1 (p_lay hs hi)
    rw [fnu_fnu, fnu_at] at s2
    refine ⟨ei2, S2, g2, s2, fun q hq => by rw [f2 q hq, su_ne hq], ?_⟩
    rw [show t + (z + 1) = t + 1 + z by omega]
    rw [show nI 0 = 0 from rfl] at k1
    rw [r158_62]
    simp (disch := first | assumption | omega | decide | (simp only [List.length_cons, List.length_nil, Nat.reduceAdd, Nat.reduceLT]; done)) only [r158_64, r158_65, r158_68, r158_68n, oGF_is, WPo_some, List.getElem?_cons_succ, List.getElem?_cons_zero, kil_n, kil_i, kil_a, kil_u, kil_l, Option.toList_some, Option.toList_none, List.cons_append, List.nil_append, List.set_cons_succ, List.set_cons_zero, addm1, Nat.reduceAdd, List.length_cons, List.length_nil, Nat.reduceLT, nI_clamp, nI_toInt, nI_leL, nI_Lle, nI_ltL, nI_Llt, nI_eqL, nI_Leq, nI_leE, nI_ltE, nI_eqE, nI_eqM, nI_add, nI_addL, nI_Ladd, nI_mulL, nI_Lmul, pk_mul, pk_sub, nI_subL, nI_Lsub, i2l_nI, Int.toNat_natCast, Nat.not_lt_zero, Nat.zero_le, ifT, ifF, not_true_eq_false, not_false_eq_true, if_true, if_false, or_self, and_self, true_and, and_true, or_true, true_or, false_or, or_false, false_and, and_false, q158_70 e1 h.ci, r158_73, r158_73n, r158_75, r158_77, r158_77n, r158_79, q158_80 k1 h.ci, q158_83 k2 hT1.ci, r158_86, r158_89]
    exact e2
noncomputable def shSt (en : Nat) (sr : Nat → Int32) (mn tu : Nat → Nat) (e tray n : Int32) : Int32 := if ¬ etSt en sr mn e tray n 60 = 0 then etSt en sr mn e tray n 60 else if tu e.toInt.toNat + n.toInt ≤ 1000 then 0 else 9
theorem x_sheet_no (hN : XN E ah A en) (hX : S 0 = xO A tx sp hT (nI en) tL st) (h : enS A S en ax wh rx fg tu ms mq) (ht : trS A S sr mn tn) {e tray n : Int32} (hs : ¬ shSt en sr mn tu e tray n = 0) : ∃ S', EV E (c + 4) 158 [.ref (A 0), .int e, .int tray, .int n] (oh E ah A S) (some (.int 0)) (oh E ah A S') ∧ S' = su S 0 (xO A tx sp hT (nI en) tL (shSt en sr mn tu e tray n)) := by
  have hO := hN.O
  have hc := hO.c0 hX
  have h4 := h.1
  by_cases h1 : etSt en sr mn e tray n 60 = 0
  · have e9 : shSt en sr mn tu e tray n = 9 := by
      unfold shSt at hs ⊢
      rw [if_neg (not_not_intro h1)] at hs ⊢
      split at hs
      · exact absurd rfl hs
      · next z => rw [if_neg z]
    obtain ⟨i, j, k, hi, rfl, hj, rfl, hne, rfl, k1, k2, k3⟩ := etSt_0 h4 (top := 60) (by omega) h1
    obtain ⟨t1, ei, el, hg, hq⟩ := (h.x (e := xO A tx sp hT (nI en) tL 0)).2.2 i hi
    have hB := hN.B hi
    have h9 : ¬ (tu i : Int) + k ≤ 1000 := by
      intro z
      unfold shSt at e9
      rw [if_neg (not_not_intro h1), nI_toInt (by omega), nI_toInt (by omega), Int.toNat_natCast, if_pos z] at e9
      exact absurd e9 (by decide)
    have h5 : (1 : Int) ≤ k ∧ (k : Int) ≤ 60 := by omega
    have h6 : ¬ (mn j : Int) < k := by omega
    refine ⟨_, e158 ?_, rfl⟩
    rw [e9]
    have hX' := hX
    unfold xO at hX' hq ⊢
    simp (disch := first | assumption | omega | decide | (simp only [List.length_cons, List.length_nil, Nat.reduceAdd, Nat.reduceLT]; done)) only [r158_0, r158_1, r158_5, r158_5n, r158_7, r158_8, r158_12, r158_12n, r158_14, r158_15, r158_15n, r158_17, r158_17n, r158_19, r158_20, r158_25, r158_28, r158_29, r158_32, r158_35, r158_35n, r158_37, r158_41, r158_44, r158_45, r158_47, r158_50, r158_51, r158_54, r158_57, r158_58 (x := 0) (Or.inl rfl), r158_58 (x := 1) (Or.inr rfl), r158_58 (b2i_or _), r158_59, r158_60, r158_62, r158_64, r158_65, r158_68, r158_68n, r158_73, r158_73n, r158_75, r158_77, r158_77n, r158_79, r158_86, r158_89, r158_92, r158_93 (x := 0) (Or.inl rfl), r158_93 (x := 1) (Or.inr rfl), r158_93 (b2i_or _), q158_2 (c_engineAt hN hX h hi) hc, q158_9 (c_trayAt hO hX ht hj) hc, q158_22 (c_ets (ht.TR hO hj)), show (60 : Int32).toInt = 60 by decide, hne, h5, h6, oGF_is, WPo_some, List.getElem?_cons_succ, List.getElem?_cons_zero, kil_n, kil_i, kil_a, kil_u, kil_l, Option.toList_some, Option.toList_none, List.cons_append, List.nil_append, List.set_cons_succ, List.set_cons_zero, addm1, Nat.reduceAdd, List.length_cons, List.length_nil, Nat.reduceLT, not_true_eq_false, not_false_eq_true, if_true, if_false, or_self, and_self, true_and, and_true, or_true, true_or, false_or, or_false, false_and, and_false, hx_0 hO, hX', pf_10150, sx_0 hO, su_at, su_su, q158_38 (p_canTurn (eSt_id hq) hB t1 (n := nI k) (by rw [nI_toInt (by omega)]; omega) (by rw [nI_toInt (by omega)]; omega)) (p_ci (eSt_id hq) hB), b2i_eq0, nI_toInt, h9, show ¬ (9 : Int32) = 0 by decide]
  · have e2 : shSt en sr mn tu e tray n = etSt en sr mn e tray n 60 := if_pos h1
    rw [e2]
    refine ⟨_, e158 ?_, rfl⟩
    have hX' := hX
    by_cases g1 : 0 ≤ e.toInt ∧ e.toInt < en
    · obtain ⟨i, hi, rfl⟩ := i32_nat (n := en) g1.1 g1.2
      by_cases g2 : 0 ≤ tray.toInt ∧ tray.toInt ≤ 3
      · obtain ⟨j, hj, rfl⟩ := i32_nat (n := 4) g2.1 (by omega)
        have e1 := etSt_i (sr := sr) (mn := mn) hi h4 hj (n := n) (top := 60)
        unfold xO at hX' ⊢
        simp (disch := first | assumption | omega | decide | (simp only [List.length_cons, List.length_nil, Nat.reduceAdd, Nat.reduceLT]; done)) only [r158_0, r158_1, r158_5, r158_5n, r158_7, r158_8, r158_12, r158_12n, r158_14, r158_15, r158_15n, r158_17, r158_17n, r158_19, r158_20, r158_25, r158_28, r158_29, r158_32, r158_35, r158_35n, r158_37, r158_41, r158_44, r158_45, r158_47, r158_50, r158_51, r158_54, r158_57, r158_58 (x := 0) (Or.inl rfl), r158_58 (x := 1) (Or.inr rfl), r158_58 (b2i_or _), r158_59, r158_60, r158_62, r158_64, r158_65, r158_68, r158_68n, r158_73, r158_73n, r158_75, r158_77, r158_77n, r158_79, r158_86, r158_89, r158_92, r158_93 (x := 0) (Or.inl rfl), r158_93 (x := 1) (Or.inr rfl), r158_93 (b2i_or _), q158_2 (c_engineAt hN hX h hi) hc, q158_9 (c_trayAt hO hX ht hj) hc, q158_22 (c_ets (ht.TR hO hj)), show (60 : Int32).toInt = 60 by decide, ← e1, h1, oGF_is, WPo_some, List.getElem?_cons_succ, List.getElem?_cons_zero, kil_n, kil_i, kil_a, kil_u, kil_l, Option.toList_some, Option.toList_none, List.cons_append, List.nil_append, List.set_cons_succ, List.set_cons_zero, addm1, Nat.reduceAdd, List.length_cons, List.length_nil, Nat.reduceLT, not_true_eq_false, not_false_eq_true, if_true, if_false, or_self, and_self, true_and, and_true, or_true, true_or, false_or, or_false, false_and, and_false, hx_0 hO, hX', pf_10150, sx_0 hO, su_at]
      · have e1 : etSt en sr mn (nI i) tray n 60 = 1 := if_pos g2
        rw [e1]
        unfold xO at hX' ⊢
        simp (disch := first | assumption | omega | decide | (simp only [List.length_cons, List.length_nil, Nat.reduceAdd, Nat.reduceLT]; done)) only [r158_0, r158_1, r158_5, r158_5n, r158_7, r158_8, r158_12, r158_12n, r158_14, r158_15, r158_15n, r158_17, r158_17n, r158_19, r158_20, r158_25, r158_28, r158_29, r158_32, r158_35, r158_35n, r158_37, r158_41, r158_44, r158_45, r158_47, r158_50, r158_51, r158_54, r158_57, r158_58 (x := 0) (Or.inl rfl), r158_58 (x := 1) (Or.inr rfl), r158_58 (b2i_or _), r158_59, r158_60, r158_62, r158_64, r158_65, r158_68, r158_68n, r158_73, r158_73n, r158_75, r158_77, r158_77n, r158_79, r158_86, r158_89, r158_92, r158_93 (x := 0) (Or.inl rfl), r158_93 (x := 1) (Or.inr rfl), r158_93 (b2i_or _), q158_2 (c_engineAt hN hX h hi) hc, q158_9 (c_trayAt_no g2) hc, q158_22n1 c_ets_n1, oGF_is, WPo_some, List.getElem?_cons_succ, List.getElem?_cons_zero, kil_n, kil_i, kil_a, kil_u, kil_l, Option.toList_some, Option.toList_none, List.cons_append, List.nil_append, List.set_cons_succ, List.set_cons_zero, addm1, Nat.reduceAdd, List.length_cons, List.length_nil, Nat.reduceLT, not_true_eq_false, not_false_eq_true, if_true, if_false, or_self, and_self, true_and, and_true, or_true, true_or, false_or, or_false, false_and, and_false, hx_0 hO, hX', pf_10150, sx_0 hO, su_at, show ¬ (1 : Int32) = 0 by decide]
    · by_cases g2 : 0 ≤ tray.toInt ∧ tray.toInt ≤ 3
      · obtain ⟨j, hj, rfl⟩ := i32_nat (n := 4) g2.1 (by omega)
        have e1 : etSt en sr mn e (nI j) n 60 = 2 := by
          unfold etSt
          rw [if_neg (not_not_intro g2), if_pos g1]
        rw [e1]
        unfold xO at hX' ⊢
        simp (disch := first | assumption | omega | decide | (simp only [List.length_cons, List.length_nil, Nat.reduceAdd, Nat.reduceLT]; done)) only [r158_0, r158_1, r158_5, r158_5n, r158_7, r158_8, r158_12, r158_12n, r158_14, r158_15, r158_15n, r158_17, r158_17n, r158_19, r158_20, r158_25, r158_28, r158_29, r158_32, r158_35, r158_35n, r158_37, r158_41, r158_44, r158_45, r158_47, r158_50, r158_51, r158_54, r158_57, r158_58 (x := 0) (Or.inl rfl), r158_58 (x := 1) (Or.inr rfl), r158_58 (b2i_or _), r158_59, r158_60, r158_62, r158_64, r158_65, r158_68, r158_68n, r158_73, r158_73n, r158_75, r158_77, r158_77n, r158_79, r158_86, r158_89, r158_92, r158_93 (x := 0) (Or.inl rfl), r158_93 (x := 1) (Or.inr rfl), r158_93 (b2i_or _), q158_2 (c_engineAt_no hN hX h4 g1) hc, q158_9 (c_trayAt hO hX ht hj) hc, q158_22n0 (c_ets_n0 (ht.TR hO hj)), oGF_is, WPo_some, List.getElem?_cons_succ, List.getElem?_cons_zero, kil_n, kil_i, kil_a, kil_u, kil_l, Option.toList_some, Option.toList_none, List.cons_append, List.nil_append, List.set_cons_succ, List.set_cons_zero, addm1, Nat.reduceAdd, List.length_cons, List.length_nil, Nat.reduceLT, not_true_eq_false, not_false_eq_true, if_true, if_false, or_self, and_self, true_and, and_true, or_true, true_or, false_or, or_false, false_and, and_false, hx_0 hO, hX', pf_10150, sx_0 hO, su_at, show ¬ (2 : Int32) = 0 by decide]
      · have e1 : etSt en sr mn e tray n 60 = 1 := if_pos g2
        rw [e1]
        unfold xO at hX' ⊢
        simp (disch := first | assumption | omega | decide | (simp only [List.length_cons, List.length_nil, Nat.reduceAdd, Nat.reduceLT]; done)) only [r158_0, r158_1, r158_5, r158_5n, r158_7, r158_8, r158_12, r158_12n, r158_14, r158_15, r158_15n, r158_17, r158_17n, r158_19, r158_20, r158_25, r158_28, r158_29, r158_32, r158_35, r158_35n, r158_37, r158_41, r158_44, r158_45, r158_47, r158_50, r158_51, r158_54, r158_57, r158_58 (x := 0) (Or.inl rfl), r158_58 (x := 1) (Or.inr rfl), r158_58 (b2i_or _), r158_59, r158_60, r158_62, r158_64, r158_65, r158_68, r158_68n, r158_73, r158_73n, r158_75, r158_77, r158_77n, r158_79, r158_86, r158_89, r158_92, r158_93 (x := 0) (Or.inl rfl), r158_93 (x := 1) (Or.inr rfl), r158_93 (b2i_or _), q158_2 (c_engineAt_no hN hX h4 g1) hc, q158_9 (c_trayAt_no g2) hc, q158_22n0n1 c_ets_n, oGF_is, WPo_some, List.getElem?_cons_succ, List.getElem?_cons_zero, kil_n, kil_i, kil_a, kil_u, kil_l, Option.toList_some, Option.toList_none, List.cons_append, List.nil_append, List.set_cons_succ, List.set_cons_zero, addm1, Nat.reduceAdd, List.length_cons, List.length_nil, Nat.reduceLT, not_true_eq_false, not_false_eq_true, if_true, if_false, or_self, and_self, true_and, and_true, or_true, true_or, false_or, or_false, false_and, and_false, hx_0 hO, hX', pf_10150, sx_0 hO, su_at, show ¬ (1 : Int32) = 0 by decide]
theorem x_sheet_ok (hN : XN E ah A en) (hX : S 0 = xO A tx sp hT (nI en) tL st) (h : enS A S en ax wh rx fg tu ms mq) (ht : trS A S sr mn tn) {i j k : Nat} (hi : i < en) (hj : j < 4) (hne : ¬ sr j = -1) (hk : 1 ≤ k ∧ k ≤ 60 ∧ k ≤ mn j) (hu : tu i + k ≤ 1000) : ∃ S', EV E (c + 4) 158 [.ref (A 0), .int (nI i), .int (nI j), .int (nI k)] (oh E ah A S) (some (.int 1)) (oh E ah A S') ∧ S' 0 = xO A tx sp hT (nI en) tL 0 ∧ enS A S' en ax wh rx (fnu fg i (trnN (ax i) (rx i) (mq i) (ms i) k (tu i) (fg i))) (fnu tu i (tu i + k)) ms mq ∧ trS A S' sr mn (fnu tn j (shF (ax i) (wh i) (rx i) (mq i) (ms i) (sr j) k 0 (tu i) (fg i) (tn j))) ∧ ∀ q, q ≠ 0 → q < 73 → S' q = S q := by
  have hO := hN.O
  have hc := hO.c0 hX
  have h4 := h.1
  have hx2 := h.x (e := xO A tx sp hT (nI en) tL 0)
  obtain ⟨t1, ei, el, hg, hq⟩ := hx2.2.2 i hi
  have hB := hN.B hi
  have h5 : (1 : Int) ≤ k ∧ (k : Int) ≤ 60 := by omega
  have h6 : ¬ (mn j : Int) < k := by omega
  have h7 : (tu i : Int) + k ≤ 1000 := by omega
  have hm := (ht.TR hO hj).2.2
  obtain ⟨ei3, S3, g3, s3, f3, e3⟩ := l_sheet (c := c) (al := lN (wt (rx i) (wh i))) (a0 := some (.ref (A 0))) (a1 := some (.int (nI i))) (a2 := some (.int (nI j))) hO hB (by omega) hj hk.2.2 hm k 0 (tu i) ei _ (su S 0 (xO A tx sp hT (nI en) tL 0)) tn (by omega) hu hg ht.x
  have hx3 : enS A S3 en ax wh rx fg tu ms mq := hx2.fr (fun q hq => f3 q (by omega))
  have u1 := hx3.up hi hu g3
  rw [fnu_self, fnu_self] at u1
  refine ⟨_, e158 ?_, ?_, u1, s3.fr (fun q hq => eSt_o (by omega)), ?_⟩
  · have hX' := hX
    rw [eSt_id hq] at e3
    unfold xO at hX' hq e3
    simp (disch := first | assumption | omega | decide | (simp only [List.length_cons, List.length_nil, Nat.reduceAdd, Nat.reduceLT]; done)) only [r158_0, r158_1, r158_5, r158_5n, r158_7, r158_8, r158_12, r158_12n, r158_14, r158_15, r158_15n, r158_17, r158_17n, r158_19, r158_20, r158_25, r158_28, r158_29, r158_32, r158_35, r158_35n, r158_37, r158_41, r158_44, r158_45, r158_47, r158_50, r158_51, r158_54, r158_57, r158_58 (x := 0) (Or.inl rfl), r158_58 (x := 1) (Or.inr rfl), r158_58 (b2i_or _), r158_59, r158_60, q158_2 (c_engineAt hN hX h hi) hc, q158_9 (c_trayAt hO hX ht hj) hc, q158_22 (c_ets (ht.TR hO hj)), show (60 : Int32).toInt = 60 by decide, hne, h5, h6, h7, oGF_is, WPo_some, List.getElem?_cons_succ, List.getElem?_cons_zero, kil_n, kil_i, kil_a, kil_u, kil_l, Option.toList_some, Option.toList_none, List.cons_append, List.nil_append, List.set_cons_succ, List.set_cons_zero, addm1, Nat.reduceAdd, List.length_cons, List.length_nil, Nat.reduceLT, not_true_eq_false, not_false_eq_true, if_true, if_false, or_self, and_self, true_and, and_true, or_true, true_or, false_or, or_false, false_and, and_false, hx_0 hO, hX', pf_10150, sx_0 hO, su_at, su_su, q158_38 (p_canTurn (eSt_id hq) hB t1 (n := nI k) (by rw [nI_toInt (by omega)]; omega) (by rw [nI_toInt (by omega)]; omega)) (p_ci (eSt_id hq) hB), b2i_eq0, nI_toInt]
    exact e3
  · rw [eSt_o (by omega), f3 0 (by omega), su_at]
  · intro q h1 h2
    rw [eSt_o (by omega), f3 q (by omega), su_ne h1]
end SHX

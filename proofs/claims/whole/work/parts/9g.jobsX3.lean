/-! Jobs of the class: job, part, partOf -/
theorem nI_any (x : Int32) : ∃ k, x = nI k := by
  refine ⟨x.toBitVec.toNat, ?_⟩
  apply Int32.toBitVec_inj.mp
  unfold nI
  simp
section FLI
variable {E : aEnv} {c a : Nat}
theorem l_fillI (x : Int32) {n : Nat} (hn : n < 2 ^ 31) : ∀ m i (ah : aHp) (N : Nat → Int32), i + m = n → hg E ah a = some (.inl (0, n, .inl N)) → WP E c 297 5 [some (.ref a), some (.int x), some (.int (nI i)), some (.int (nI n))] [] ah (fun r1 x1 => r1 = none ∧ x1 = hs E ah a (.inl (0, n, .inl (fun j => if i ≤ j ∧ j < n then x else N j))))
  | 0, i, ah, N, hm, h => by
    have e1 : (fun j => if i ≤ j ∧ j < n then x else N j) = N := by
      funext j
      rw [if_neg (by omega)]
    rw [r297_5, e1, hs_self h]
    simp (disch := first | assumption | omega | decide | (simp only [List.length_cons, List.length_nil, Nat.reduceAdd, Nat.reduceLT]; done) | fail) only [r297_6, r297_7, r297_20, oGF_is, WPo_some, List.getElem?_cons_succ, List.getElem?_cons_zero, kil_n, kil_i, kil_a, kil_u, kil_l, Option.toList_some, Option.toList_none, List.cons_append, List.nil_append, List.set_cons_succ, List.set_cons_zero, addm1, Nat.reduceAdd, List.length_cons, List.length_nil, Nat.reduceLT, nI_clamp, nI_toInt, nI_leL, nI_Lle, nI_ltL, nI_Llt, nI_eqL, nI_Leq, nI_leE, nI_ltE, nI_eqE, nI_eqM, nI_add, nI_addL, nI_Ladd, nI_mulL, nI_Lmul, pk_mul, pk_sub, nI_subL, nI_Lsub, i2l_nI, Int.toNat_natCast, Nat.not_lt_zero, Nat.zero_le, ifT, ifF, not_true_eq_false, not_false_eq_true, if_true, if_false, or_self, and_self, true_and, and_true, or_true, true_or, false_or, or_false, false_and, and_false]
  | m + 1, i, ah, N, hm, h => by
    have ih := l_fillI x hn m (i + 1) (hs E ah a (.inl (0, n, .inl (upd N i x)))) (upd N i x) (by omega) (hg_same h)
    rw [hs_hs] at ih
    have e1 : (fun j => if i + 1 ≤ j ∧ j < n then x else upd N i x j) = fun j => if i ≤ j ∧ j < n then x else N j := by
      funext j
      unfold upd
      by_cases hj : j = i
      · subst hj
        rw [if_neg (by omega), if_pos rfl, if_pos (by omega)]
      · by_cases h2 : i + 1 ≤ j ∧ j < n
        · rw [if_pos h2, if_pos (by omega)]
        · rw [if_neg h2, if_neg hj, if_neg (by omega)]
    rw [e1] at ih
    rw [r297_5]
    simp (disch := first | assumption | omega | decide | (simp only [List.length_cons, List.length_nil, Nat.reduceAdd, Nat.reduceLT]; done) | fail) only [r297_6, r297_7, r297_10, r297_10n, r297_11, r297_12, r297_13, r297_14, r297_17, oGF_is, WPo_some, List.getElem?_cons_succ, List.getElem?_cons_zero, kil_n, kil_i, kil_a, kil_u, kil_l, Option.toList_some, Option.toList_none, List.cons_append, List.nil_append, List.set_cons_succ, List.set_cons_zero, addm1, Nat.reduceAdd, List.length_cons, List.length_nil, Nat.reduceLT, nI_clamp, nI_toInt, nI_leL, nI_Lle, nI_ltL, nI_Llt, nI_eqL, nI_Leq, nI_leE, nI_ltE, nI_eqE, nI_eqM, nI_add, nI_addL, nI_Ladd, nI_mulL, nI_Lmul, pk_mul, pk_sub, nI_subL, nI_Lsub, i2l_nI, Int.toNat_natCast, Nat.not_lt_zero, Nat.zero_le, ifT, ifF, not_true_eq_false, not_false_eq_true, if_true, if_false, or_self, and_self, true_and, and_true, or_true, true_or, false_or, or_false, false_and, and_false, pI, h]
    exact ih
theorem c_fillI {ah : aHp} {N : Nat → Int32} {x : Int32} {n : Nat} (hn : n < 2 ^ 31) (h : hg E ah a = some (.inl (0, n, .inl N))) : EV E c 297 [.ref a, .int x] ah none (hs E ah a (.inl (0, n, .inl (fillI N x n)))) := by
  refine e297 ?_
  have h1 := l_fillI (E := E) (c := c) (a := a) x hn n 0 ah N (by omega) h
  have e1 : (fun j => if 0 ≤ j ∧ j < n then x else N j) = fillI N x n := by
    funext j
    simp [fillI]
  rw [e1] at h1
  simp (disch := first | assumption | omega | decide | (simp only [List.length_cons, List.length_nil, Nat.reduceAdd, Nat.reduceLT]; done) | fail) only [r297_0, r297_1, r297_2, r297_2n, r297_3, r297_4, oGF_is, WPo_some, List.getElem?_cons_succ, List.getElem?_cons_zero, kil_n, kil_i, kil_a, kil_u, kil_l, Option.toList_some, Option.toList_none, List.cons_append, List.nil_append, List.set_cons_succ, List.set_cons_zero, addm1, Nat.reduceAdd, List.length_cons, List.length_nil, Nat.reduceLT, gN_at h (by decide)]
  exact h1
end FLI
noncomputable def jRes (en : Nat) (ax wh : Nat → Nat) (jn : Nat) (ja jw jt cc : Nat → Nat) : Nat × (Nat → Nat) := asg en (fitJ ax wh ja jw) jt jn 0 (fun _ => 0) (fun _ => 0) 0 (1000000, cc)
noncomputable def jbX (A : Nat → Nat) (S : Nat → aE) (en : Nat) (ax wh : Nat → Nat) (jn : Nat) (ja jw jt : Nat → Nat) : Prop := ∃ l b ji, (∀ q, q < 7 → S (54 + q) = jC A (nI jn) l b ji q) ∧ jR ji jn ja jw jt ∧ (b = 0 ∨ (b = 1 ∧ ∃ cc, l = nI (jRes en ax wh jn ja jw jt cc).1 ∧ ∀ q, q < jn → ji 5 q = nI ((jRes en ax wh jn ja jw jt cc).2 q)))
section JP
variable {E : aEnv} {c : Nat} {ah : aHp} {A : Nat → Nat} {S : Nat → aE} {tx sp : Nat} {hT tL st : Int32} {en : Nat} {ax wh : Nat → Nat} {rx : Nat → Nat → Nat} {fg : Nat → Nat → Nat → Nat} {tu ms : Nat → Nat} {mq : Nat → Nat → Nat → Nat} {jn : Nat} {ja jw jt : Nat → Nat}
theorem c_partAmong (hN : XN E ah A en) (h : enS A S en ax wh rx fg tu ms mq) {l b : Int32} {ji : Nat → Nat → Int32} (hj : jR ji jn ja jw jt) (hb : b = 0 ∨ (b = 1 ∧ ∃ cc, l = nI (jRes en ax wh jn ja jw jt cc).1 ∧ ∀ q, q < jn → ji 5 q = nI ((jRes en ax wh jn ja jw jt cc).2 q))) : ∃ cc ji', jR ji' jn ja jw jt ∧ (∀ q, q < jn → ji' 5 q = nI ((jRes en ax wh jn ja jw jt cc).2 q)) ∧ EV E (c + 9) 92 [.ref (A 54), .ref (A 2), .int (nI en)] (oh E ah A (jS A S (nI jn) l b ji)) none (oh E ah A (jS A S (nI jn) (nI (jRes en ax wh jn ja jw jt cc).1) 1 ji')) := by
  have hO := hN.O
  have h4 := h.1
  have h7 := hj.1
  rcases hb with rfl | ⟨rfl, cc, e1, e2⟩
  · have hcc : ∃ cc : Nat → Nat, ∀ q, ji 5 q = nI (cc q) := ⟨fun q => (nI_any (ji 5 q)).choose, fun q => (nI_any (ji 5 q)).choose_spec⟩
    obtain ⟨cc, hcc⟩ := hcc
    obtain ⟨ji', b1, b2, b3⟩ := c_asg (c := c + 7 - jn) (b := 1) hN h jn (jn := jn) (ja := ja) (jw := jw) (jt := jt) 0 (fun _ => 0) (fun _ => 0) 0 (1000000, cc) (iu ji 6 (fillI (ji 6) 0 4)) (jR_fr hj (fun k hk => iu_ne (by omega))) (by omega) (by omega) (Nat.le_refl _) ⟨fun q hq => absurd hq (by omega), fun q hq => by rw [iu_ne (by decide)]; exact hcc q, fun i hi => by
      rw [iu_at]
      unfold fillI
      rw [if_pos (by omega)]
      exact ⟨rfl, Nat.zero_le _⟩⟩
    rw [show c + 7 - jn + 1 + jn = c + 8 by omega] at b3
    have b3 : EV E (c + 8) 96 [.ref (A 54), .ref (A 2), .int (nI en), .int 0, .int 0] (oh E ah A (jS A S (nI jn) 1000000 1 (iu ji 6 (fillI (ji 6) 0 4)))) none (oh E ah A (jS A S (nI jn) (nI (jRes en ax wh jn ja jw jt cc).1) 1 ji')) := b3
    refine ⟨cc, ji', jR_fr hj (fun k hk => by rw [b1 k (by omega), iu_ne (by omega)]), b2.2.1, e92 ?_⟩
    have kf := c_fillI (E := E) (c := c + 8) (x := 0) (n := 4) (by decide) (gj_6 (S := S) (n := nI jn) (l := 1000000) (b := 1) (ji := ji) hO)
    rw [sj_6 hO] at kf
    have mn1 : (if 4 < en then (4 : Int32) else nI en) = nI en := if_neg (by omega)
    simp (disch := first | assumption | omega | decide | (simp only [List.length_cons, List.length_nil, Nat.reduceAdd, Nat.reduceLT]; done) | fail) only [r92_0, r92_1, r92_4, r92_7, r92_8, r92_9, r92_10, r92_13, r92_14, r92_16, r92_19, r92_20, r92_23, r92_27, r92_28, r92_28n, r92_29, r92_30, r92_34, r92_35, r92_39, q92_24 kf, q92_31 c_min, q92_36 b3, gj_0 hO, sj_0 hO, pf_6083 (Or.inr rfl), pf_6070, oGF_is, WPo_some, List.getElem?_cons_succ, List.getElem?_cons_zero, kil_n, kil_i, kil_a, kil_u, kil_l, Option.toList_some, Option.toList_none, List.cons_append, List.nil_append, List.set_cons_succ, List.set_cons_zero, addm1, Nat.reduceAdd, List.length_cons, List.length_nil, Nat.reduceLT, nI_clamp, nI_toInt, nI_leL, nI_Lle, nI_ltL, nI_Llt, nI_eqL, nI_Leq, nI_leE, nI_ltE, nI_eqE, nI_eqM, nI_add, nI_addL, nI_Ladd, nI_mulL, nI_Lmul, pk_mul, pk_sub, nI_subL, nI_Lsub, i2l_nI, Int.toNat_natCast, Nat.not_lt_zero, Nat.zero_le, ifT, ifF, mn1, not_true_eq_false, not_false_eq_true, if_true, if_false, or_self, and_self, true_and, and_true, or_true, true_or, false_or, or_false, false_and, and_false]
  · refine ⟨cc, ji, hj, e2, e92 ?_⟩
    rw [e1]
    simp (disch := first | assumption | omega | decide | (simp only [List.length_cons, List.length_nil, Nat.reduceAdd, Nat.reduceLT]; done) | fail) only [r92_0, r92_1, r92_4, r92_7, gj_0 hO, oGF_is, WPo_some, List.getElem?_cons_succ, List.getElem?_cons_zero, kil_n, kil_i, kil_a, kil_u, kil_l, Option.toList_some, Option.toList_none, List.cons_append, List.nil_append, List.set_cons_succ, List.set_cons_zero, addm1, Nat.reduceAdd, List.length_cons, List.length_nil, Nat.reduceLT, not_true_eq_false, not_false_eq_true, if_true, if_false, or_self, and_self, true_and, and_true, or_true, true_or, false_or, or_false, false_and, and_false, show ¬ (1 : Int32) = 0 by decide]
noncomputable def joSt (jn : Nat) (x y z : Int32) : Int32 := if ¬ (((2 ≤ x.toInt ∧ x.toInt ≤ 7) ∧ 1 ≤ y.toInt ∧ y.toInt ≤ 12) ∧ 1 ≤ z.toInt ∧ z.toInt ≤ 1000) then 5 else if jn = 7 then 7 else 0
theorem x_job_no (hO : XO E ah A) {eC : Int32} (hX : S 0 = xO A tx sp hT eC tL st) (hJ : jbX A S en ax wh jn ja jw jt) {x y z : Int32} (hs : ¬ joSt jn x y z = 0) : EV E (c + 3) 179 [.ref (A 0), .int x, .int y, .int z] (oh E ah A S) (some (.int (-1))) (oh E ah A (su S 0 (xO A tx sp hT eC tL (joSt jn x y z)))) := by
  obtain ⟨l, b, ji, hcell, hj, -⟩ := hJ
  have h7 := hj.1
  have hid := jS_id hcell
  have kf := c_jFull (c := c + 2) (S := S) (l := l) (b := b) (ji := ji) hO h7
  have cj := j_ci (S := S) (l := l) (b := b) (ji := ji) (n := nI jn) hO
  rw [hid] at kf cj
  refine e179 ?_
  have hX' := hX
  unfold joSt at hs ⊢
  unfold xO at hX' ⊢
  by_cases h1 : (2 ≤ x.toInt ∧ x.toInt ≤ 7) ∧ 1 ≤ y.toInt ∧ y.toInt ≤ 12
  · have h1' : canH x y := h1
    by_cases h2 : 1 ≤ z.toInt ∧ z.toInt ≤ 1000
    · have h3 : ¬ z < 1 := by simp only [i32_lt, i32_le, i64_lt, i64_le, i2l_toInt, Int32.reduceToInt, Int64.reduceToInt]; omega
      have h4 : z ≤ 1000 := by simp only [i32_lt, i32_le, i64_lt, i64_le, i2l_toInt, Int32.reduceToInt, Int64.reduceToInt]; omega
      rw [if_neg (not_not_intro ⟨h1, h2⟩)] at hs ⊢
      have h5 : jn = 7 := Classical.byContradiction fun q => hs (if_neg q)
      rw [if_pos h5]
      simp (disch := first | assumption | omega | decide | (simp only [List.length_cons, List.length_nil, Nat.reduceAdd, Nat.reduceLT]; done) | fail) only [r179_0, r179_1, r179_5, r179_8, r179_9, r179_10, r179_13, r179_14, r179_17, r179_20, r179_21, r179_22, r179_25, r179_28, r179_29, r179_30, r179_36, r179_39, r179_41, r179_44, r179_45, r179_48, r179_49, r179_52, r179_55, r179_56, r179_59, r179_60, r179_61, r179_65, r179_68, r179_69, q179_2 c_canHave, q179_33 kf cj, h1', h3, h4, h5, b2i_eq0, hx_0 hO, hX', pf_10150, sx_0 hO, su_at, oGF_is, WPo_some, List.getElem?_cons_succ, List.getElem?_cons_zero, kil_n, kil_i, kil_a, kil_u, kil_l, Option.toList_some, Option.toList_none, List.cons_append, List.nil_append, List.set_cons_succ, List.set_cons_zero, addm1, Nat.reduceAdd, List.length_cons, List.length_nil, Nat.reduceLT, not_true_eq_false, not_false_eq_true, if_true, if_false, or_self, and_self, true_and, and_true, or_true, true_or, false_or, or_false, false_and, and_false, show ¬ (7 : Int32) = 0 by decide]
    · rw [if_pos (fun q => h2 q.2)]
      by_cases h3 : z < 1
      · simp (disch := first | assumption | omega | decide | (simp only [List.length_cons, List.length_nil, Nat.reduceAdd, Nat.reduceLT]; done) | fail) only [r179_0, r179_1, r179_5, r179_8, r179_9, r179_10, r179_13, r179_14, r179_17, r179_20, r179_21, r179_22, r179_25, r179_28, r179_29, r179_30, r179_36, r179_39, r179_41, r179_44, r179_45, r179_48, r179_49, r179_52, r179_55, r179_56, r179_59, r179_60, r179_61, r179_65, r179_68, r179_69, q179_2 c_canHave, h1', h3, b2i_eq0, hx_0 hO, hX', pf_10150, sx_0 hO, su_at, oGF_is, WPo_some, List.getElem?_cons_succ, List.getElem?_cons_zero, kil_n, kil_i, kil_a, kil_u, kil_l, Option.toList_some, Option.toList_none, List.cons_append, List.nil_append, List.set_cons_succ, List.set_cons_zero, addm1, Nat.reduceAdd, List.length_cons, List.length_nil, Nat.reduceLT, not_true_eq_false, not_false_eq_true, if_true, if_false, or_self, and_self, true_and, and_true, or_true, true_or, false_or, or_false, false_and, and_false, show ¬ (5 : Int32) = 0 by decide]
      · have h4 : ¬ z ≤ 1000 := by simp only [i32_lt, i32_le, i64_lt, i64_le, i2l_toInt, Int32.reduceToInt, Int64.reduceToInt] at h3 ⊢; omega
        simp (disch := first | assumption | omega | decide | (simp only [List.length_cons, List.length_nil, Nat.reduceAdd, Nat.reduceLT]; done) | fail) only [r179_0, r179_1, r179_5, r179_8, r179_9, r179_10, r179_13, r179_14, r179_17, r179_20, r179_21, r179_22, r179_25, r179_28, r179_29, r179_30, r179_36, r179_39, r179_41, r179_44, r179_45, r179_48, r179_49, r179_52, r179_55, r179_56, r179_59, r179_60, r179_61, r179_65, r179_68, r179_69, q179_2 c_canHave, h1', h3, h4, b2i_eq0, hx_0 hO, hX', pf_10150, sx_0 hO, su_at, oGF_is, WPo_some, List.getElem?_cons_succ, List.getElem?_cons_zero, kil_n, kil_i, kil_a, kil_u, kil_l, Option.toList_some, Option.toList_none, List.cons_append, List.nil_append, List.set_cons_succ, List.set_cons_zero, addm1, Nat.reduceAdd, List.length_cons, List.length_nil, Nat.reduceLT, not_true_eq_false, not_false_eq_true, if_true, if_false, or_self, and_self, true_and, and_true, or_true, true_or, false_or, or_false, false_and, and_false, show ¬ (5 : Int32) = 0 by decide]
  · have h1' : ¬ canH x y := h1
    rw [if_pos (fun q => h1 q.1)]
    simp (disch := first | assumption | omega | decide | (simp only [List.length_cons, List.length_nil, Nat.reduceAdd, Nat.reduceLT]; done) | fail) only [r179_0, r179_1, r179_5, r179_8, r179_9, r179_10, r179_13, r179_14, r179_17, r179_20, r179_21, r179_22, r179_25, r179_28, r179_29, r179_30, r179_36, r179_39, r179_41, r179_44, r179_45, r179_48, r179_49, r179_52, r179_55, r179_56, r179_59, r179_60, r179_61, r179_65, r179_68, r179_69, q179_2 c_canHave, h1', b2i_eq0, hx_0 hO, hX', pf_10150, sx_0 hO, su_at, oGF_is, WPo_some, List.getElem?_cons_succ, List.getElem?_cons_zero, kil_n, kil_i, kil_a, kil_u, kil_l, Option.toList_some, Option.toList_none, List.cons_append, List.nil_append, List.set_cons_succ, List.set_cons_zero, addm1, Nat.reduceAdd, List.length_cons, List.length_nil, Nat.reduceLT, not_true_eq_false, not_false_eq_true, if_true, if_false, or_self, and_self, true_and, and_true, or_true, true_or, false_or, or_false, false_and, and_false, show ¬ (5 : Int32) = 0 by decide]
theorem joSt_0 {x y z : Int32} (h : joSt jn x y z = 0) : ∃ a w t, x = nI a ∧ y = nI w ∧ z = nI t ∧ (2 ≤ a ∧ a ≤ 7) ∧ (1 ≤ w ∧ w ≤ 12) ∧ (1 ≤ t ∧ t ≤ 1000) ∧ ¬ jn = 7 := by
  unfold joSt at h
  repeat' split at h
  all_goals first | (exfalso; revert h; decide) | skip
  rename_i h1 h2
  obtain ⟨a, ha, rfl⟩ := i32_nat (x := x) (n := 8) (by omega) (by omega)
  obtain ⟨w, hw, rfl⟩ := i32_nat (x := y) (n := 13) (by omega) (by omega)
  obtain ⟨t, ht, rfl⟩ := i32_nat (x := z) (n := 1001) (by omega) (by omega)
  rw [nI_toInt (by omega), nI_toInt (by omega), nI_toInt (by omega)] at h1
  exact ⟨a, w, t, rfl, rfl, rfl, by omega, by omega, by omega, h2⟩
theorem x_job_ok (hO : XO E ah A) {eC : Int32} (hX : S 0 = xO A tx sp hT eC tL st) (hJ : jbX A S en ax wh jn ja jw jt) {a w t : Nat} (ha : 2 ≤ a ∧ a ≤ 7) (hw : 1 ≤ w ∧ w ≤ 12) (ht : 1 ≤ t ∧ t ≤ 1000) (hn : ¬ jn = 7) : ∃ S', EV E (c + 3) 179 [.ref (A 0), .int (nI a), .int (nI w), .int (nI t)] (oh E ah A S) (some (.int (nI jn))) (oh E ah A S') ∧ S' 0 = xO A tx sp hT eC tL 0 ∧ jbX A S' en ax wh (jn + 1) (fnu ja jn a) (fnu jw jn w) (fnu jt jn t) ∧ ∀ q, ¬ q = 0 → ¬ (54 ≤ q ∧ q < 61) → S' q = S q := by
  obtain ⟨l, b, ji, hcell, hj, -⟩ := hJ
  have h7 := hj.1
  have hid := jS_id hcell
  have hid2 : jS A (su S 0 (xO A tx sp hT eC tL 0)) (nI jn) l b ji = su S 0 (xO A tx sp hT eC tL 0) := jS_id (fun q hq => by rw [su_ne (by omega)]; exact hcell q hq)
  have kf := c_jFull (c := c + 2) (S := S) (l := l) (b := b) (ji := ji) hO h7
  have cj := j_ci (S := S) (l := l) (b := b) (ji := ji) (n := nI jn) hO
  rw [hid] at kf cj
  have kt := c_jTake (c := c + 1) (S := su S 0 (xO A tx sp hT eC tL 0)) (l := l) (b := b) (ji := ji) hO (show jn < 7 by omega) (x := nI a) (y := nI w) (z := nI t)
  have cj2 := j_ci (S := su S 0 (xO A tx sp hT eC tL 0)) (l := l) (b := b) (ji := ji) (n := nI jn) hO
  rw [hid2] at kt cj2
  have c1 : canH (nI a) (nI w) := by
    unfold canH
    rw [nI_toInt (by omega), nI_toInt (by omega)]
    omega
  refine ⟨jS A (su S 0 (xO A tx sp hT eC tL 0)) (nI (jn + 1)) l 0 (iu (iu (iu ji 1 (upd (ji 1) jn (nI a))) 2 (upd (ji 2) jn (nI w))) 3 (upd (ji 3) jn (nI t))), e179 ?_, by rw [jS_o (by omega), su_at], ⟨l, 0, iu (iu (iu ji 1 (upd (ji 1) jn (nI a))) 2 (upd (ji 2) jn (nI w))) 3 (upd (ji 3) jn (nI t)), fun q hq => ?_, ?_, Or.inl rfl⟩, fun q h1 h2 => by rw [jS_o (by omega), su_ne h1]⟩
  · have hX' := hX
    unfold xO at hX' kt cj2 ⊢
    simp (disch := first | assumption | omega | decide | (simp only [List.length_cons, List.length_nil, Nat.reduceAdd, Nat.reduceLT]; done) | fail) only [r179_0, r179_1, r179_5, r179_8, r179_9, r179_10, r179_13, r179_14, r179_17, r179_20, r179_21, r179_22, r179_25, r179_28, r179_29, r179_30, r179_36, r179_39, r179_41, r179_44, r179_45, r179_48, r179_49, r179_52, r179_55, r179_56, r179_59, r179_60, r179_61, r179_65, r179_68, r179_69, q179_2 c_canHave, q179_33 kf cj, q179_62 kt cj2, c1, hn, b2i_eq0, hx_0 hO, hX', pf_10150, sx_0 hO, su_at, oGF_is, WPo_some, List.getElem?_cons_succ, List.getElem?_cons_zero, kil_n, kil_i, kil_a, kil_u, kil_l, Option.toList_some, Option.toList_none, List.cons_append, List.nil_append, List.set_cons_succ, List.set_cons_zero, addm1, Nat.reduceAdd, List.length_cons, List.length_nil, Nat.reduceLT, nI_clamp, nI_toInt, nI_leL, nI_Lle, nI_ltL, nI_Llt, nI_eqL, nI_Leq, nI_leE, nI_ltE, nI_eqE, nI_eqM, nI_add, nI_addL, nI_Ladd, nI_mulL, nI_Lmul, pk_mul, pk_sub, nI_subL, nI_Lsub, i2l_nI, Int.toNat_natCast, Nat.not_lt_zero, Nat.zero_le, ifT, ifF, not_true_eq_false, not_false_eq_true, if_true, if_false, or_self, and_self, true_and, and_true, or_true, true_or, false_or, or_false, false_and, and_false]
  · unfold jS
    rw [if_pos (by omega), show 54 + q - 54 = q by omega]
  · refine ⟨by omega, fun j hj' => ?_⟩
    simp only [iu, Nat.reduceEqDiff, if_true, if_false, upd, fnu]
    by_cases z : j = jn
    · simp only [z, if_true, and_self, true_and]
      omega
    · simp only [z, if_false]
      exact hj.2 j (by omega)
noncomputable def paSt (en : Nat) (ax wh : Nat → Nat) (jn : Nat) (ja jw jt : Nat → Nat) : Int32 := if (jRes en ax wh jn ja jw jt (fun _ => 0)).1 = 1000000 then 9 else 0
theorem asg_cc {fit : Nat → Nat → Bool} {t : Nat → Nat} : ∀ m j s L g (p q : Nat × (Nat → Nat)), p.1 = q.1 → (asg en fit t m j s L g p).1 = (asg en fit t m j s L g q).1 ∧ (asg en fit t m j s L g p = asg en fit t m j s L g q ∨ (asg en fit t m j s L g p = p ∧ asg en fit t m j s L g q = q))
  | 0, j, s, L, g, p, q, h => by
    rw [asg, asg]
    by_cases z : g < p.1
    · rw [if_pos z, if_pos (by omega)]
      exact ⟨rfl, Or.inl rfl⟩
    · rw [if_neg z, if_neg (by omega)]
      exact ⟨h, Or.inr ⟨rfl, rfl⟩⟩
  | m + 1, j, s, L, g, p, q, h => by
    rw [asg, asg]
    have key : ∀ z i (p q : Nat × (Nat → Nat)), p.1 = q.1 → (fo (fun cur i => if fit i j then asg en fit t m (j + 1) (fnu s j i) (fnu L i (L i + t j)) (max g (L i + t j)) cur else cur) z i p).1 = (fo (fun cur i => if fit i j then asg en fit t m (j + 1) (fnu s j i) (fnu L i (L i + t j)) (max g (L i + t j)) cur else cur) z i q).1 ∧ (fo (fun cur i => if fit i j then asg en fit t m (j + 1) (fnu s j i) (fnu L i (L i + t j)) (max g (L i + t j)) cur else cur) z i p = fo (fun cur i => if fit i j then asg en fit t m (j + 1) (fnu s j i) (fnu L i (L i + t j)) (max g (L i + t j)) cur else cur) z i q ∨ (fo (fun cur i => if fit i j then asg en fit t m (j + 1) (fnu s j i) (fnu L i (L i + t j)) (max g (L i + t j)) cur else cur) z i p = p ∧ fo (fun cur i => if fit i j then asg en fit t m (j + 1) (fnu s j i) (fnu L i (L i + t j)) (max g (L i + t j)) cur else cur) z i q = q)) := by
      intro z
      induction z with
      | zero => exact fun i p q h => ⟨h, Or.inr ⟨rfl, rfl⟩⟩
      | succ z ih =>
        intro i p q h
        rw [fo, fo]
        by_cases hf : fit i j = true
        · rw [if_pos hf, if_pos hf]
          have a := asg_cc (fit := fit) (t := t) m (j + 1) (fnu s j i) (fnu L i (L i + t j)) (max g (L i + t j)) p q h
          rcases a.2 with e | ⟨e1, e2⟩
          · rw [e]
            exact ⟨rfl, Or.inl rfl⟩
          · rw [e1, e2]
            exact ih (i + 1) p q h
        · rw [if_neg hf, if_neg hf]
          exact ih (i + 1) p q h
    exact key en 0 p q h
theorem jRes_1 {cc : Nat → Nat} : (jRes en ax wh jn ja jw jt cc).1 = (jRes en ax wh jn ja jw jt (fun _ => 0)).1 := (asg_cc (en := en) (fit := fitJ ax wh ja jw) (t := jt) jn 0 (fun _ => 0) (fun _ => 0) 0 (1000000, cc) (1000000, fun _ => 0) rfl).1
theorem jRes_2 {cc cc' : Nat → Nat} (h : ¬ (jRes en ax wh jn ja jw jt (fun _ => 0)).1 = 1000000) : (jRes en ax wh jn ja jw jt cc).2 = (jRes en ax wh jn ja jw jt cc').2 := by
  rcases (asg_cc (en := en) (fit := fitJ ax wh ja jw) (t := jt) jn 0 (fun _ => 0) (fun _ => 0) 0 (1000000, cc) (1000000, cc') rfl).2 with e | ⟨e1, e2⟩
  · exact congrArg (·.2) e
  · exfalso
    apply h
    rw [← jRes_1 (cc := cc)]
    exact congrArg (·.1) e1
theorem jRes_le {cc : Nat → Nat} : (jRes en ax wh jn ja jw jt cc).1 ≤ 1000000 := asg_le _ _ _ _ _ _
theorem x_part (hN : XN E ah A en) (hX : S 0 = xO A tx sp hT (nI en) tL st) (h : enS A S en ax wh rx fg tu ms mq) (hJ : jbX A S en ax wh jn ja jw jt) : ∃ S', EV E (c + 10) 180 [.ref (A 0)] (oh E ah A S) (some (.int (if paSt en ax wh jn ja jw jt = 0 then nI (jRes en ax wh jn ja jw jt (fun _ => 0)).1 else -1))) (oh E ah A S') ∧ S' 0 = xO A tx sp hT (nI en) tL (paSt en ax wh jn ja jw jt) ∧ jbX A S' en ax wh jn ja jw jt ∧ ∀ q, ¬ q = 0 → ¬ (54 ≤ q ∧ q < 61) → S' q = S q := by
  have hO := hN.O
  obtain ⟨l, b, ji, hcell, hj, hb⟩ := hJ
  have hid := jS_id hcell
  obtain ⟨cc, ji', p1, p2, p3⟩ := c_partAmong (c := c) (S := S) hN h hj hb
  have cj := j_ci (S := S) (l := l) (b := b) (ji := ji) (n := nI jn) hO
  rw [hid] at p3 cj
  have le := jRes_le (en := en) (ax := ax) (wh := wh) (jn := jn) (ja := ja) (jw := jw) (jt := jt) (cc := fun _ => 0)
  rw [jRes_1 (cc := cc)] at p3
  have hX' := hX
  obtain ⟨T, hTT⟩ : ∃ T, T = jS A S (nI jn) (nI (jRes en ax wh jn ja jw jt (fun _ => 0)).1) 1 ji' := ⟨_, rfl⟩
  have T0 : T 0 = xO A tx sp hT (nI en) tL st := by rw [hTT, jS_o (by omega)]; exact hX
  have Tc : ∀ q, q < 7 → T (54 + q) = jC A (nI jn) (nI (jRes en ax wh jn ja jw jt (fun _ => 0)).1) 1 ji' q := fun q hq => by
    rw [hTT]
    unfold jS
    rw [if_pos (by omega), show 54 + q - 54 = q by omega]
  have cjT : ∀ e, oCI (hg E (oh E ah A (su T 0 e)) (A 54)) = 6 := fun e => by rw [hx_54 hO, su_ne (by decide), show T 54 = _ from Tc 0 (by decide)]; rfl
  have cjT' : oCI (hg E (oh E ah A T) (A 54)) = 6 := by rw [hx_54 hO, show T 54 = _ from Tc 0 (by decide)]; rfl
  have gT : hg E (oh E ah A T) (A 54) = some (.inr (6, [.ref (A 55), .ref (A 56), .ref (A 57), .ref (A 58), .ref (A 59), .ref (A 60), .int (nI jn), .int (nI (jRes en ax wh jn ja jw jt (fun _ => 0)).1), .int 1])) := by rw [hx_54 hO, show T 54 = _ from Tc 0 (by decide)]; rfl
  have gT2 : ∀ e, hg E (oh E ah A (su T 0 e)) (A 54) = some (.inr (6, [.ref (A 55), .ref (A 56), .ref (A 57), .ref (A 58), .ref (A 59), .ref (A 60), .int (nI jn), .int (nI (jRes en ax wh jn ja jw jt (fun _ => 0)).1), .int 1])) := fun e => by rw [hx_54 hO, su_ne (by decide), show T 54 = _ from Tc 0 (by decide)]; rfl
  rw [← hTT] at p3
  refine ⟨su T 0 (xO A tx sp hT (nI en) tL (paSt en ax wh jn ja jw jt)), e180 ?_, su_at, ⟨_, 1, ji', fun q hq => by rw [su_ne (by omega)]; exact Tc q hq, p1, Or.inr ⟨rfl, cc, by rw [jRes_1 (cc := cc)], p2⟩⟩, fun q h1 h2 => by rw [su_ne h1, hTT, jS_o (by omega)]⟩
  unfold paSt
  generalize hr : (jRes en ax wh jn ja jw jt (fun _ => 0)).1 = res at *
  have kc : ∀ c, EV E c 93 [.ref (A 54)] (oh E ah A T) (some (.int (b2i (¬ res = 1000000)))) (oh E ah A T) := fun c => by
    refine e93 ?_
    by_cases z : res = 1000000
    · simp (disch := first | assumption | omega | decide | (simp only [List.length_cons, List.length_nil, Nat.reduceAdd, Nat.reduceLT]; done) | fail) only [r93_0, r93_1, r93_4, r93_6, r93_9, r93_10, r93_13, r93_14 (x := 0) (Or.inl rfl), r93_14 (x := 1) (Or.inr rfl), r93_14 (b2i_or _), gT, oGF_is, WPo_some, List.getElem?_cons_succ, List.getElem?_cons_zero, kil_n, kil_i, kil_a, kil_u, kil_l, Option.toList_some, Option.toList_none, List.cons_append, List.nil_append, List.set_cons_succ, List.set_cons_zero, addm1, Nat.reduceAdd, List.length_cons, List.length_nil, Nat.reduceLT, nI_clamp, nI_toInt, nI_leL, nI_Lle, nI_ltL, nI_Llt, nI_eqL, nI_Leq, nI_leE, nI_ltE, nI_eqE, nI_eqM, nI_add, nI_addL, nI_Ladd, nI_mulL, nI_Lmul, pk_mul, pk_sub, nI_subL, nI_Lsub, i2l_nI, Int.toNat_natCast, Nat.not_lt_zero, Nat.zero_le, ifT, ifF, not_true_eq_false, not_false_eq_true, if_true, if_false, or_self, and_self, true_and, and_true, or_true, true_or, false_or, or_false, false_and, and_false, z, b2i]
    · simp (disch := first | assumption | omega | decide | (simp only [List.length_cons, List.length_nil, Nat.reduceAdd, Nat.reduceLT]; done) | fail) only [r93_0, r93_1, r93_4, r93_6, r93_9, r93_10, r93_13, r93_14 (x := 0) (Or.inl rfl), r93_14 (x := 1) (Or.inr rfl), r93_14 (b2i_or _), gT, oGF_is, WPo_some, List.getElem?_cons_succ, List.getElem?_cons_zero, kil_n, kil_i, kil_a, kil_u, kil_l, Option.toList_some, Option.toList_none, List.cons_append, List.nil_append, List.set_cons_succ, List.set_cons_zero, addm1, Nat.reduceAdd, List.length_cons, List.length_nil, Nat.reduceLT, nI_clamp, nI_toInt, nI_leL, nI_Lle, nI_ltL, nI_Llt, nI_eqL, nI_Leq, nI_leE, nI_ltE, nI_eqE, nI_eqM, nI_add, nI_addL, nI_Ladd, nI_mulL, nI_Lmul, pk_mul, pk_sub, nI_subL, nI_Lsub, i2l_nI, Int.toNat_natCast, Nat.not_lt_zero, Nat.zero_le, ifT, ifF, not_true_eq_false, not_false_eq_true, if_true, if_false, or_self, and_self, true_and, and_true, or_true, true_or, false_or, or_false, false_and, and_false, z, b2i]
  have kl : ∀ c e, EV E c 94 [.ref (A 54)] (oh E ah A (su T 0 e)) (some (.int (nI res))) (oh E ah A (su T 0 e)) := fun c e => by
    refine e94 ?_
    simp (disch := first | assumption | omega | decide | (simp only [List.length_cons, List.length_nil, Nat.reduceAdd, Nat.reduceLT]; done) | fail) only [r94_0, r94_1, r94_4, gT2, oGF_is, WPo_some, List.getElem?_cons_succ, List.getElem?_cons_zero, kil_n, kil_i, kil_a, kil_u, kil_l, Option.toList_some, Option.toList_none, List.cons_append, List.nil_append, List.set_cons_succ, List.set_cons_zero, addm1, Nat.reduceAdd, List.length_cons, List.length_nil, Nat.reduceLT, not_true_eq_false, not_false_eq_true, if_true, if_false, or_self, and_self, true_and, and_true, or_true, true_or, false_or, or_false, false_and, and_false]
  unfold xO at hX' T0 ⊢
  by_cases z : res = 1000000
  · simp (disch := first | assumption | omega | decide | (simp only [List.length_cons, List.length_nil, Nat.reduceAdd, Nat.reduceLT]; done) | fail) only [r180_0, r180_1, r180_4, r180_5, r180_8, r180_9, r180_15, r180_16, r180_17, r180_23, r180_26, r180_27, r180_30, r180_32, r180_35, r180_36, r180_39, r180_42, r180_43, r180_49, r180_52, r180_53, q180_12 p3 cj, q180_20 (kc _) cjT', hx_0 hO, hX', T0, pf_10150, sx_0 hO, su_at, b2i_eq0, z, oGF_is, WPo_some, List.getElem?_cons_succ, List.getElem?_cons_zero, kil_n, kil_i, kil_a, kil_u, kil_l, Option.toList_some, Option.toList_none, List.cons_append, List.nil_append, List.set_cons_succ, List.set_cons_zero, addm1, Nat.reduceAdd, List.length_cons, List.length_nil, Nat.reduceLT, not_true_eq_false, not_false_eq_true, if_true, if_false, or_self, and_self, true_and, and_true, or_true, true_or, false_or, or_false, false_and, and_false, show ¬ (9 : Int32) = 0 by decide]
  · simp (disch := first | assumption | omega | decide | (simp only [List.length_cons, List.length_nil, Nat.reduceAdd, Nat.reduceLT]; done) | fail) only [r180_0, r180_1, r180_4, r180_5, r180_8, r180_9, r180_15, r180_16, r180_17, r180_23, r180_26, r180_27, r180_30, r180_32, r180_35, r180_36, r180_39, r180_42, r180_43, r180_49, r180_52, r180_53, q180_12 p3 cj, q180_20 (kc _) cjT', q180_46 (kl _ _) (cjT _), hx_0 hO, hX', T0, pf_10150, sx_0 hO, su_at, b2i_eq0, z, oGF_is, WPo_some, List.getElem?_cons_succ, List.getElem?_cons_zero, kil_n, kil_i, kil_a, kil_u, kil_l, Option.toList_some, Option.toList_none, List.cons_append, List.nil_append, List.set_cons_succ, List.set_cons_zero, addm1, Nat.reduceAdd, List.length_cons, List.length_nil, Nat.reduceLT, not_true_eq_false, not_false_eq_true, if_true, if_false, or_self, and_self, true_and, and_true, or_true, true_or, false_or, or_false, false_and, and_false]
end JP

/-! The class' finer table: turning axes without ends -/
noncomputable def adL (n : Nat) : Nat → Nat → (Nat → Int64) → Nat → Int64
  | 0, _, D => D
  | k + 1, x, D => if x + 1 < n then adL n k (x + 2) (vp_updL D x (D x + D (x + 1))) else D
theorem adL_tx {n : Nat} (h2 : 2 ≤ n) (h5 : n ≤ 5) {D : Nat → Int64} : adL n 3 1 (adL n 3 0 D) = tx n D := by
  funext y
  rcases (show n = 2 ∨ n = 3 ∨ n = 4 ∨ n = 5 by omega) with rfl | rfl | rfl | rfl
  all_goals
    by_cases y0 : y = 0
    · subst y0; simp [adL, tx, vp_updL]
    by_cases y1 : y = 1
    · subst y1; simp [adL, tx, vp_updL]
    by_cases y2 : y = 2
    · subst y2; simp [adL, tx, vp_updL]
    by_cases y3 : y = 3
    · subst y3; simp [adL, tx, vp_updL]
    have hn : ∀ z, z < 4 → ¬ y = z := fun z hz => by omega
    simp [adL, tx, vp_updL, y0, y1, y2, y3]
    try omega
section TZ
variable {E : aEnv} {c p n : Nat}
theorem c_sum0 {ah : aHp} {x y : Int64} : EV E c 30 [.long x, .long y, .long 0] ah (some (.long (x + y))) ah := by
  refine e30 ?_
  simp (disch := first | assumption | omega | decide | (simp only [List.length_cons, List.length_nil, Nat.reduceAdd, Nat.reduceLT]; done) | fail) only [r30_0, r30_2, r30_3, r30_4, r30_7, r30_8, r30_9, r30_10, r30_12, r30_13, r30_16, r30_17, r30_18, r30_19, r30_21, r30_22, r30_25, r30_26, r30_27, r30_28, oGF_is, WPo_some, List.getElem?_cons_succ, List.getElem?_cons_zero, kil_n, kil_i, kil_a, kil_u, kil_l, Option.toList_some, Option.toList_none, List.cons_append, List.nil_append, List.set_cons_succ, List.set_cons_zero, addm1, Nat.reduceAdd, List.length_cons, List.length_nil, Nat.reduceLT, lg_cmp_le, show (0 : Int64) ≤ 0 by decide, not_true_eq_false, not_false_eq_true, if_true, if_false, or_self, and_self, true_and, and_true, or_true, true_or, false_or, or_false, false_and, and_false]
theorem l_tz1 (h5 : n ≤ 5) {ah0 : aHp} (h0 : hg E ah0 p ≠ none) {l1 : Option Value} {Q : Option Value → aHp → Prop} : ∀ k x D, x ≤ 6 → n ≤ x + 2 * k → (∀ l5, WP E (c + 1) 29 44 [some (.ref p), l1, some (.long 0), none, some (.int (nI n)), l5] [] (hs E ah0 p (.inl (1, 5, .inr (.inl (adL n k x D))))) Q) → WP E (c + 1) 29 11 [some (.ref p), l1, some (.long 0), none, some (.int (nI n)), some (.int (nI x))] [] (hs E ah0 p (.inl (1, 5, .inr (.inl D)))) Q
  | 0, x, D, hx, hk, K => by
    have K := K (some (.int (nI x)))
    rw [r29_11]
    simp (disch := first | assumption | omega | decide | (simp only [List.length_cons, List.length_nil, Nat.reduceAdd, Nat.reduceLT]; done) | fail) only [r29_13, r29_14, r29_15, r29_17, oGF_is, WPo_some, List.getElem?_cons_succ, List.getElem?_cons_zero, kil_n, kil_i, kil_a, kil_u, kil_l, Option.toList_some, Option.toList_none, List.cons_append, List.nil_append, List.set_cons_succ, List.set_cons_zero, addm1, Nat.reduceAdd, List.length_cons, List.length_nil, Nat.reduceLT, nI_clamp, nI_toInt, nI_leL, nI_Lle, nI_ltL, nI_Llt, nI_eqL, nI_Leq, nI_leE, nI_ltE, nI_eqE, nI_eqM, nI_add, nI_addL, nI_Ladd, nI_mulL, nI_Lmul, pk_mul, pk_sub, nI_subL, nI_Lsub, i2l_nI, Int.toNat_natCast, Nat.not_lt_zero, Nat.zero_le, ifT, ifF, not_true_eq_false, not_false_eq_true, if_true, if_false, or_self, and_self, true_and, and_true, or_true, true_or, false_or, or_false, false_and, and_false]
    exact K
  | k + 1, x, D, hx, hk, K => by
    rw [r29_11]
    by_cases z : x + 1 < n
    · obtain ⟨e, he⟩ := Option.ne_none_iff_exists'.mp h0
      have ih := l_tz1 h5 h0 (l1 := l1) k (x + 2) (vp_updL D x (D x + D (x + 1))) (by omega) (by omega) (by
        intro l5
        have K := K l5
        unfold adL at K
        rw [if_pos z] at K
        exact K)
      simp (disch := first | assumption | omega | decide | (simp only [List.length_cons, List.length_nil, Nat.reduceAdd, Nat.reduceLT]; done) | fail) only [r29_13, r29_14, r29_15, r29_17, r29_20, r29_20n, r29_21, r29_23, r29_23n, r29_24, r29_26, r29_27, r29_27n, r29_28, r29_30, r29_31, r29_32, r29_33, r29_37, r29_38, r29_41, oGF_is, WPo_some, List.getElem?_cons_succ, List.getElem?_cons_zero, kil_n, kil_i, kil_a, kil_u, kil_l, Option.toList_some, Option.toList_none, List.cons_append, List.nil_append, List.set_cons_succ, List.set_cons_zero, addm1, Nat.reduceAdd, List.length_cons, List.length_nil, Nat.reduceLT, nI_clamp, nI_toInt, nI_leL, nI_Lle, nI_ltL, nI_Llt, nI_eqL, nI_Leq, nI_leE, nI_ltE, nI_eqE, nI_eqM, nI_add, nI_addL, nI_Ladd, nI_mulL, nI_Lmul, pk_mul, pk_sub, nI_subL, nI_Lsub, i2l_nI, Int.toNat_natCast, Nat.not_lt_zero, Nat.zero_le, ifT, ifF, not_true_eq_false, not_false_eq_true, if_true, if_false, or_self, and_self, true_and, and_true, or_true, true_or, false_or, or_false, false_and, and_false, gL, pL, hg_same he, hs_hs, q29_34 c_sum0]
      exact ih
    · have K := K (some (.int (nI x)))
      unfold adL at K
      rw [if_neg z] at K
      simp (disch := first | assumption | omega | decide | (simp only [List.length_cons, List.length_nil, Nat.reduceAdd, Nat.reduceLT]; done) | fail) only [r29_13, r29_14, r29_15, r29_17, oGF_is, WPo_some, List.getElem?_cons_succ, List.getElem?_cons_zero, kil_n, kil_i, kil_a, kil_u, kil_l, Option.toList_some, Option.toList_none, List.cons_append, List.nil_append, List.set_cons_succ, List.set_cons_zero, addm1, Nat.reduceAdd, List.length_cons, List.length_nil, Nat.reduceLT, nI_clamp, nI_toInt, nI_leL, nI_Lle, nI_ltL, nI_Llt, nI_eqL, nI_Leq, nI_leE, nI_ltE, nI_eqE, nI_eqM, nI_add, nI_addL, nI_Ladd, nI_mulL, nI_Lmul, pk_mul, pk_sub, nI_subL, nI_Lsub, i2l_nI, Int.toNat_natCast, Nat.not_lt_zero, Nat.zero_le, ifT, ifF, not_true_eq_false, not_false_eq_true, if_true, if_false, or_self, and_self, true_and, and_true, or_true, true_or, false_or, or_false, false_and, and_false]
      exact K
theorem l_tz2 (h5 : n ≤ 5) {ah0 : aHp} (h0 : hg E ah0 p ≠ none) {l1 : Option Value} {Q : Option Value → aHp → Prop} : ∀ k x D, x ≤ 7 → n ≤ x + 2 * k → (∀ l5, WP E (c + 1) 29 80 [some (.ref p), l1, some (.long 0), none, some (.int (nI n)), l5] [] (hs E ah0 p (.inl (1, 5, .inr (.inl (adL n k x D))))) Q) → WP E (c + 1) 29 47 [some (.ref p), l1, some (.long 0), none, some (.int (nI n)), some (.int (nI x))] [] (hs E ah0 p (.inl (1, 5, .inr (.inl D)))) Q
  | 0, x, D, hx, hk, K => by
    have K := K (some (.int (nI x)))
    rw [r29_47]
    simp (disch := first | assumption | omega | decide | (simp only [List.length_cons, List.length_nil, Nat.reduceAdd, Nat.reduceLT]; done) | fail) only [r29_49, r29_50, r29_51, r29_53, oGF_is, WPo_some, List.getElem?_cons_succ, List.getElem?_cons_zero, kil_n, kil_i, kil_a, kil_u, kil_l, Option.toList_some, Option.toList_none, List.cons_append, List.nil_append, List.set_cons_succ, List.set_cons_zero, addm1, Nat.reduceAdd, List.length_cons, List.length_nil, Nat.reduceLT, nI_clamp, nI_toInt, nI_leL, nI_Lle, nI_ltL, nI_Llt, nI_eqL, nI_Leq, nI_leE, nI_ltE, nI_eqE, nI_eqM, nI_add, nI_addL, nI_Ladd, nI_mulL, nI_Lmul, pk_mul, pk_sub, nI_subL, nI_Lsub, i2l_nI, Int.toNat_natCast, Nat.not_lt_zero, Nat.zero_le, ifT, ifF, not_true_eq_false, not_false_eq_true, if_true, if_false, or_self, and_self, true_and, and_true, or_true, true_or, false_or, or_false, false_and, and_false]
    exact K
  | k + 1, x, D, hx, hk, K => by
    rw [r29_47]
    by_cases z : x + 1 < n
    · obtain ⟨e, he⟩ := Option.ne_none_iff_exists'.mp h0
      have ih := l_tz2 h5 h0 (l1 := l1) k (x + 2) (vp_updL D x (D x + D (x + 1))) (by omega) (by omega) (by
        intro l5
        have K := K l5
        unfold adL at K
        rw [if_pos z] at K
        exact K)
      simp (disch := first | assumption | omega | decide | (simp only [List.length_cons, List.length_nil, Nat.reduceAdd, Nat.reduceLT]; done) | fail) only [r29_49, r29_50, r29_51, r29_53, r29_56, r29_56n, r29_57, r29_59, r29_59n, r29_60, r29_62, r29_63, r29_63n, r29_64, r29_66, r29_67, r29_68, r29_69, r29_73, r29_74, r29_77, oGF_is, WPo_some, List.getElem?_cons_succ, List.getElem?_cons_zero, kil_n, kil_i, kil_a, kil_u, kil_l, Option.toList_some, Option.toList_none, List.cons_append, List.nil_append, List.set_cons_succ, List.set_cons_zero, addm1, Nat.reduceAdd, List.length_cons, List.length_nil, Nat.reduceLT, nI_clamp, nI_toInt, nI_leL, nI_Lle, nI_ltL, nI_Llt, nI_eqL, nI_Leq, nI_leE, nI_ltE, nI_eqE, nI_eqM, nI_add, nI_addL, nI_Ladd, nI_mulL, nI_Lmul, pk_mul, pk_sub, nI_subL, nI_Lsub, i2l_nI, Int.toNat_natCast, Nat.not_lt_zero, Nat.zero_le, ifT, ifF, not_true_eq_false, not_false_eq_true, if_true, if_false, or_self, and_self, true_and, and_true, or_true, true_or, false_or, or_false, false_and, and_false, gL, pL, hg_same he, hs_hs, q29_70 c_sum0]
      exact ih
    · have K := K (some (.int (nI x)))
      unfold adL at K
      rw [if_neg z] at K
      simp (disch := first | assumption | omega | decide | (simp only [List.length_cons, List.length_nil, Nat.reduceAdd, Nat.reduceLT]; done) | fail) only [r29_49, r29_50, r29_51, r29_53, oGF_is, WPo_some, List.getElem?_cons_succ, List.getElem?_cons_zero, kil_n, kil_i, kil_a, kil_u, kil_l, Option.toList_some, Option.toList_none, List.cons_append, List.nil_append, List.set_cons_succ, List.set_cons_zero, addm1, Nat.reduceAdd, List.length_cons, List.length_nil, Nat.reduceLT, nI_clamp, nI_toInt, nI_leL, nI_Lle, nI_ltL, nI_Llt, nI_eqL, nI_Leq, nI_leE, nI_ltE, nI_eqE, nI_eqM, nI_add, nI_addL, nI_Ladd, nI_mulL, nI_Lmul, pk_mul, pk_sub, nI_subL, nI_Lsub, i2l_nI, Int.toNat_natCast, Nat.not_lt_zero, Nat.zero_le, ifT, ifF, not_true_eq_false, not_false_eq_true, if_true, if_false, or_self, and_self, true_and, and_true, or_true, true_or, false_or, or_false, false_and, and_false]
      exact K
theorem c_turn0 {ah : aHp} (h2 : 2 ≤ n) (h5 : n ≤ 5) {D : Nat → Int64} (h : hg E ah p = some (.inl (1, 5, .inr (.inl D)))) : EV E (c + 2) 29 [.ref p, .int (nI n), .long 0] ah none (hs E ah p (.inl (1, 5, .inr (.inl (tx n D))))) := by
  refine e29 ?_
  have h0 : hg E ah p ≠ none := by rw [h]; exact fun z => nomatch z
  have e1 := mnL h5 (show 5 ≤ 60 by decide)
  have l := l_tz1 (c := c + 1) h5 h0 (l1 := some (.int (nI n))) (Q := fun r1 x1 => r1 = none ∧ x1 = hs E ah p (.inl (1, 5, .inr (.inl (tx n D))))) 3 0 D (by omega) (by omega) (fun l5 => by
    have l' := l_tz2 (c := c + 1) h5 h0 (l1 := some (.int (nI n))) (Q := fun r1 x1 => r1 = none ∧ x1 = hs E ah p (.inl (1, 5, .inr (.inl (tx n D))))) 3 1 (adL n 3 0 D) (by omega) (by omega) (fun l5 => by
      simp (disch := first | assumption | omega | decide | (simp only [List.length_cons, List.length_nil, Nat.reduceAdd, Nat.reduceLT]; done) | fail) only [r29_80]
      rw [adL_tx h2 h5]
      exact ⟨trivial, rfl⟩)
    simp (disch := first | assumption | omega | decide | (simp only [List.length_cons, List.length_nil, Nat.reduceAdd, Nat.reduceLT]; done) | fail) only [r29_44, r29_45, oGF_is, WPo_some, List.getElem?_cons_succ, List.getElem?_cons_zero, kil_n, kil_i, kil_a, kil_u, kil_l, Option.toList_some, Option.toList_none, List.cons_append, List.nil_append, List.set_cons_succ, List.set_cons_zero, addm1, Nat.reduceAdd, List.length_cons, List.length_nil, Nat.reduceLT]
    exact l')
  rw [hs_self h] at l
  simp (disch := first | assumption | omega | decide | (simp only [List.length_cons, List.length_nil, Nat.reduceAdd, Nat.reduceLT]; done) | fail) only [r29_0, r29_1, r29_1n, r29_2, r29_6, r29_8, r29_9, gN_at h (by decide), q29_3 c_min, oGF_is, WPo_some, List.getElem?_cons_succ, List.getElem?_cons_zero, kil_n, kil_i, kil_a, kil_u, kil_l, Option.toList_some, Option.toList_none, List.cons_append, List.nil_append, List.set_cons_succ, List.set_cons_zero, addm1, Nat.reduceAdd, List.length_cons, List.length_nil, Nat.reduceLT, e1]
  exact l
end TZ

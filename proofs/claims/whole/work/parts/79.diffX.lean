/-! Differences of the class -/
section DFX
variable {E : aEnv} {c a L n : Nat}
theorem l_az1 (hn : n ≤ L) (hL : L ≤ 60) {k : Nat} (hk : 1 ≤ k) (hkn : k ≤ n) {l1 l2 : Option Value} {Q : Option Value → aHp → Prop} {ah0 : aHp} : ∀ z (D : Nat → Int64), k + z ≤ n → hg E ah0 a ≠ none → WP E c 27 44 [some (.ref a), l1, l2, some (.int (nI k)), some (.int (nI (k - 1)))] [] (hs E ah0 a (.inl (1, L, .inr (.inl (az1 k z D))))) Q → WP E c 27 19 [some (.ref a), l1, l2, some (.int (nI k)), some (.int (nI (k + z - 1)))] [] (hs E ah0 a (.inl (1, L, .inr (.inl D)))) Q
  | 0, D, hz, h0, K => by
    rw [r27_19, Nat.add_zero]
    simp (disch := first | assumption | omega | decide | (simp only [List.length_cons, List.length_nil, Nat.reduceAdd, Nat.reduceLT]; done) | fail) only [r27_21, r27_22, oGF_is, WPo_some, List.getElem?_cons_succ, List.getElem?_cons_zero, kil_n, kil_i, kil_a, kil_u, kil_l, Option.toList_some, Option.toList_none, List.cons_append, List.nil_append, List.set_cons_succ, List.set_cons_zero, addm1, Nat.reduceAdd, List.length_cons, List.length_nil, Nat.reduceLT, nI_clamp, nI_toInt, nI_leL, nI_Lle, nI_ltL, nI_Llt, nI_eqL, nI_Leq, nI_leE, nI_ltE, nI_eqE, nI_eqM, nI_add, nI_addL, nI_Ladd, nI_mulL, nI_Lmul, pk_mul, pk_sub, nI_subL, nI_Lsub, i2l_nI, Int.toNat_natCast, Nat.not_lt_zero, Nat.zero_le, ifT, ifF, not_true_eq_false, not_false_eq_true, if_true, if_false, or_self, and_self, true_and, and_true, or_true, true_or, false_or, or_false, false_and, and_false]
    exact K
  | z + 1, D, hz, h0, K => by
    obtain ⟨e, he⟩ := Option.ne_none_iff_exists'.mp h0
    have ih := l_az1 hn hL hk hkn z (vp_updL D (k + z) (D (k + z) - D (k + z - 1))) (by omega) h0 (l1 := l1) (l2 := l2) (Q := Q) K
    have e1 : k + (z + 1) - 1 = k + z := by omega
    rw [r27_19, e1]
    simp (disch := first | assumption | omega | decide | (simp only [List.length_cons, List.length_nil, Nat.reduceAdd, Nat.reduceLT]; done) | fail) only [r27_21, r27_22, r27_25, r27_25n, r27_26, r27_28, r27_28l, r27_29, r27_30, r27_30n, r27_31, r27_33, r27_34, r27_35, r27_36, r27_37, r27_38, r27_41, oGF_is, WPo_some, List.getElem?_cons_succ, List.getElem?_cons_zero, kil_n, kil_i, kil_a, kil_u, kil_l, Option.toList_some, Option.toList_none, List.cons_append, List.nil_append, List.set_cons_succ, List.set_cons_zero, addm1, Nat.reduceAdd, List.length_cons, List.length_nil, Nat.reduceLT, nI_clamp, nI_toInt, nI_leL, nI_Lle, nI_ltL, nI_Llt, nI_eqL, nI_Leq, nI_leE, nI_ltE, nI_eqE, nI_eqM, nI_add, nI_addL, nI_Ladd, nI_mulL, nI_Lmul, pk_mul, pk_sub, nI_subL, nI_Lsub, i2l_nI, Int.toNat_natCast, Nat.not_lt_zero, Nat.zero_le, ifT, ifF, not_true_eq_false, not_false_eq_true, if_true, if_false, or_self, and_self, true_and, and_true, or_true, true_or, false_or, or_false, false_and, and_false, gL, pL, hg_same he, hs_hs]
    exact ih
theorem l_azO (hn : n ≤ L) (hL : L ≤ 60) {l1 : Option Value} {ah0 : aHp} : ∀ y k (D : Nat → Int64) l4, 1 ≤ k → k + y = n → hg E ah0 a ≠ none → WP E c 27 9 [some (.ref a), l1, some (.int (nI n)), some (.int (nI k)), l4] [] (hs E ah0 a (.inl (1, L, .inr (.inl D)))) (fun r1 x1 => r1 = none ∧ x1 = hs E ah0 a (.inl (1, L, .inr (.inl (azO n y k D)))))
  | 0, k, D, l4, hk, hy, h0 => by
    rw [r27_9, show k = n by omega]
    simp (disch := first | assumption | omega | decide | (simp only [List.length_cons, List.length_nil, Nat.reduceAdd, Nat.reduceLT]; done) | fail) only [r27_10, r27_11, r27_50, oGF_is, WPo_some, List.getElem?_cons_succ, List.getElem?_cons_zero, kil_n, kil_i, kil_a, kil_u, kil_l, Option.toList_some, Option.toList_none, List.cons_append, List.nil_append, List.set_cons_succ, List.set_cons_zero, addm1, Nat.reduceAdd, List.length_cons, List.length_nil, Nat.reduceLT, nI_clamp, nI_toInt, nI_leL, nI_Lle, nI_ltL, nI_Llt, nI_eqL, nI_Leq, nI_leE, nI_ltE, nI_eqE, nI_eqM, nI_add, nI_addL, nI_Ladd, nI_mulL, nI_Lmul, pk_mul, pk_sub, nI_subL, nI_Lsub, i2l_nI, Int.toNat_natCast, Nat.not_lt_zero, Nat.zero_le, ifT, ifF, not_true_eq_false, not_false_eq_true, if_true, if_false, or_self, and_self, true_and, and_true, or_true, true_or, false_or, or_false, false_and, and_false]
    exact rfl
  | y + 1, k, D, l4, hk, hy, h0 => by
    have ih := l_azO hn hL (l1 := l1) y (k + 1) (az1 k (n - k) D) (some (.int (nI (k - 1)))) (by omega) (by omega) h0
    have l := l_az1 hn hL hk (by omega) (l1 := l1) (l2 := some (.int (nI n))) (c := c) (Q := fun r1 x1 => r1 = none ∧ x1 = hs E ah0 a (.inl (1, L, .inr (.inl (azO n (y + 1) k D))))) (n - k) D (by omega) h0 (by
      simp (disch := first | assumption | omega | decide | (simp only [List.length_cons, List.length_nil, Nat.reduceAdd, Nat.reduceLT]; done) | fail) only [r27_44, r27_47, oGF_is, WPo_some, List.getElem?_cons_succ, List.getElem?_cons_zero, kil_n, kil_i, kil_a, kil_u, kil_l, Option.toList_some, Option.toList_none, List.cons_append, List.nil_append, List.set_cons_succ, List.set_cons_zero, addm1, Nat.reduceAdd, List.length_cons, List.length_nil, Nat.reduceLT, nI_clamp, nI_toInt, nI_leL, nI_Lle, nI_ltL, nI_Llt, nI_eqL, nI_Leq, nI_leE, nI_ltE, nI_eqE, nI_eqM, nI_add, nI_addL, nI_Ladd, nI_mulL, nI_Lmul, pk_mul, pk_sub, nI_subL, nI_Lsub, i2l_nI, Int.toNat_natCast, Nat.not_lt_zero, Nat.zero_le, ifT, ifF, not_true_eq_false, not_false_eq_true, if_true, if_false, or_self, and_self, true_and, and_true, or_true, true_or, false_or, or_false, false_and, and_false]
      exact ih)
    rw [show k + (n - k) - 1 = n - 1 by omega] at l
    rw [r27_9]
    simp (disch := first | assumption | omega | decide | (simp only [List.length_cons, List.length_nil, Nat.reduceAdd, Nat.reduceLT]; done) | fail) only [r27_10, r27_11, r27_14, r27_15, r27_16, r27_17, oGF_is, WPo_some, List.getElem?_cons_succ, List.getElem?_cons_zero, kil_n, kil_i, kil_a, kil_u, kil_l, Option.toList_some, Option.toList_none, List.cons_append, List.nil_append, List.set_cons_succ, List.set_cons_zero, addm1, Nat.reduceAdd, List.length_cons, List.length_nil, Nat.reduceLT, nI_clamp, nI_toInt, nI_leL, nI_Lle, nI_ltL, nI_Llt, nI_eqL, nI_Leq, nI_leE, nI_ltE, nI_eqE, nI_eqM, nI_add, nI_addL, nI_Ladd, nI_mulL, nI_Lmul, pk_mul, pk_sub, nI_subL, nI_Lsub, i2l_nI, Int.toNat_natCast, Nat.not_lt_zero, Nat.zero_le, ifT, ifF, not_true_eq_false, not_false_eq_true, if_true, if_false, or_self, and_self, true_and, and_true, or_true, true_or, false_or, or_false, false_and, and_false]
    exact l
theorem mnL (hn : n ≤ L) (hL : L ≤ 60) : (if Int32.ofNat L < nI n then Int32.ofNat L else nI n) = nI n := if_neg (by
  show ¬ nI L < nI n
  rw [nI_ltE (by omega) (by omega)]
  omega)
theorem azO_0 {D : Nat → Int64} {k : Nat} : azO n 0 k D = D := rfl
theorem c_atZero {ah : aHp} (hn : n ≤ L) (hL : L ≤ 60) (h1 : 1 ≤ n) {D : Nat → Int64} (h : hg E ah a = some (.inl (1, L, .inr (.inl D)))) : EV E (c + 1) 27 [.ref a, .int (nI n)] ah none (hs E ah a (.inl (1, L, .inr (.inl (azO n (n - 1) 1 D))))) := by
  refine e27 ?_
  have l := l_azO (E := E) (a := a) (c := c + 1) hn hL (l1 := some (.int (nI n))) (ah0 := ah) (n - 1) 1 D none (by omega) (by omega) (by rw [h]; exact fun z => nomatch z)
  rw [hs_self h] at l
  have e1 := mnL hn hL
  simp (disch := first | assumption | omega | decide | (simp only [List.length_cons, List.length_nil, Nat.reduceAdd, Nat.reduceLT]; done) | fail) only [r27_0, r27_1, r27_1n, r27_2, r27_6, r27_7, r27_8, gN_at h (by decide), q27_3 c_min, oGF_is, WPo_some, List.getElem?_cons_succ, List.getElem?_cons_zero, kil_n, kil_i, kil_a, kil_u, kil_l, Option.toList_some, Option.toList_none, List.cons_append, List.nil_append, List.set_cons_succ, List.set_cons_zero, addm1, Nat.reduceAdd, List.length_cons, List.length_nil, Nat.reduceLT, e1]
  exact l
theorem l_ah1 (hn : n ≤ L) (hL : L ≤ 60) {s : Nat} (hs2 : 1 ≤ s) {l1 l2 : Option Value} {Q : Option Value → aHp → Prop} {ah0 : aHp} : ∀ z (D : Nat → Int64), s + z < n ∨ z = 0 → s ≤ 60 → hg E ah0 a ≠ none → (∀ l4, WP E c 28 49 [some (.ref a), l1, l2, some (.int (nI s)), l4] [] (hs E ah0 a (.inl (1, L, .inr (.inl (ah1 s z D))))) Q) → WP E c 28 24 [some (.ref a), l1, l2, some (.int (nI s)), some (.int (nI (s + z - 1)))] [] (hs E ah0 a (.inl (1, L, .inr (.inl D)))) Q
  | 0, D, hz, h60, h0, K => by
    have K := K (some (.int (nI (s - 1))))
    rw [r28_24, Nat.add_zero]
    simp (disch := first | assumption | omega | decide | (simp only [List.length_cons, List.length_nil, Nat.reduceAdd, Nat.reduceLT]; done) | fail) only [r28_26, r28_27, oGF_is, WPo_some, List.getElem?_cons_succ, List.getElem?_cons_zero, kil_n, kil_i, kil_a, kil_u, kil_l, Option.toList_some, Option.toList_none, List.cons_append, List.nil_append, List.set_cons_succ, List.set_cons_zero, addm1, Nat.reduceAdd, List.length_cons, List.length_nil, Nat.reduceLT, nI_clamp, nI_toInt, nI_leL, nI_Lle, nI_ltL, nI_Llt, nI_eqL, nI_Leq, nI_leE, nI_ltE, nI_eqE, nI_eqM, nI_add, nI_addL, nI_Ladd, nI_mulL, nI_Lmul, pk_mul, pk_sub, nI_subL, nI_Lsub, i2l_nI, Int.toNat_natCast, Nat.not_lt_zero, Nat.zero_le, ifT, ifF, not_true_eq_false, not_false_eq_true, if_true, if_false, or_self, and_self, true_and, and_true, or_true, true_or, false_or, or_false, false_and, and_false]
    exact K
  | z + 1, D, hz, h60, h0, K => by
    obtain ⟨e, he⟩ := Option.ne_none_iff_exists'.mp h0
    have ih := l_ah1 hn hL hs2 z (vp_updL D (s + z) (D (s + z) - D (s + z + 1))) (by omega) h60 h0 (l1 := l1) (l2 := l2) (Q := Q) K
    have e1 : s + (z + 1) - 1 = s + z := by omega
    rw [r28_24, e1]
    simp (disch := first | assumption | omega | decide | (simp only [List.length_cons, List.length_nil, Nat.reduceAdd, Nat.reduceLT]; done) | fail) only [r28_26, r28_27, r28_30, r28_30n, r28_31, r28_33, r28_33l, r28_34, r28_35, r28_35n, r28_36, r28_38, r28_39, r28_40, r28_41, r28_42, r28_43, r28_46, oGF_is, WPo_some, List.getElem?_cons_succ, List.getElem?_cons_zero, kil_n, kil_i, kil_a, kil_u, kil_l, Option.toList_some, Option.toList_none, List.cons_append, List.nil_append, List.set_cons_succ, List.set_cons_zero, addm1, Nat.reduceAdd, List.length_cons, List.length_nil, Nat.reduceLT, nI_clamp, nI_toInt, nI_leL, nI_Lle, nI_ltL, nI_Llt, nI_eqL, nI_Leq, nI_leE, nI_ltE, nI_eqE, nI_eqM, nI_add, nI_addL, nI_Ladd, nI_mulL, nI_Lmul, pk_mul, pk_sub, nI_subL, nI_Lsub, i2l_nI, Int.toNat_natCast, Nat.not_lt_zero, Nat.zero_le, ifT, ifF, not_true_eq_false, not_false_eq_true, if_true, if_false, or_self, and_self, true_and, and_true, or_true, true_or, false_or, or_false, false_and, and_false, gL, pL, hg_same he, hs_hs]
    exact ih
/-- a step of the second part: s is 2, 4 or 6 -/
theorem l_ahO (hn : n ≤ L) (hL : L ≤ 60) {l1 : Option Value} {ah0 : aHp} {s : Nat} (hs2 : 2 ≤ s) (hs6 : s ≤ 6) {D : Nat → Int64} {l4 : Option Value} (h0 : hg E ah0 a ≠ none) {Q : Option Value → aHp → Prop} (K1 : s < n → ∀ l4, WP E c 28 14 [some (.ref a), l1, some (.int (nI n)), some (.int (nI (s + 2))), l4] [] (hs E ah0 a (.inl (1, L, .inr (.inl (ah1 s (n - 1 - s) D))))) Q) (K2 : ¬ s < n → Q none (hs E ah0 a (.inl (1, L, .inr (.inl D))))) : WP E c 28 14 [some (.ref a), l1, some (.int (nI n)), some (.int (nI s)), l4] [] (hs E ah0 a (.inl (1, L, .inr (.inl D)))) Q := by
  rw [r28_14]
  by_cases z : s < n
  · have l := l_ah1 (l1 := l1) (l2 := some (.int (nI n))) hn hL (by omega) (n - 1 - s) D (by omega) (by omega) h0 (c := c) (s := s) (Q := Q) (fun l4 => by
      have K := K1 z l4
      simp (disch := first | assumption | omega | decide | (simp only [List.length_cons, List.length_nil, Nat.reduceAdd, Nat.reduceLT]; done) | fail) only [r28_49, r28_52, oGF_is, WPo_some, List.getElem?_cons_succ, List.getElem?_cons_zero, kil_n, kil_i, kil_a, kil_u, kil_l, Option.toList_some, Option.toList_none, List.cons_append, List.nil_append, List.set_cons_succ, List.set_cons_zero, addm1, Nat.reduceAdd, List.length_cons, List.length_nil, Nat.reduceLT, nI_clamp, nI_toInt, nI_leL, nI_Lle, nI_ltL, nI_Llt, nI_eqL, nI_Leq, nI_leE, nI_ltE, nI_eqE, nI_eqM, nI_add, nI_addL, nI_Ladd, nI_mulL, nI_Lmul, pk_mul, pk_sub, nI_subL, nI_Lsub, i2l_nI, Int.toNat_natCast, Nat.not_lt_zero, Nat.zero_le, ifT, ifF, not_true_eq_false, not_false_eq_true, if_true, if_false, or_self, and_self, true_and, and_true, or_true, true_or, false_or, or_false, false_and, and_false]
      exact K)
    rw [show s + (n - 1 - s) - 1 = n - 2 by omega] at l
    simp (disch := first | assumption | omega | decide | (simp only [List.length_cons, List.length_nil, Nat.reduceAdd, Nat.reduceLT]; done) | fail) only [r28_15, r28_16, r28_19, r28_20, r28_21, r28_22, oGF_is, WPo_some, List.getElem?_cons_succ, List.getElem?_cons_zero, kil_n, kil_i, kil_a, kil_u, kil_l, Option.toList_some, Option.toList_none, List.cons_append, List.nil_append, List.set_cons_succ, List.set_cons_zero, addm1, Nat.reduceAdd, List.length_cons, List.length_nil, Nat.reduceLT, nI_clamp, nI_toInt, nI_leL, nI_Lle, nI_ltL, nI_Llt, nI_eqL, nI_Leq, nI_leE, nI_ltE, nI_eqE, nI_eqM, nI_add, nI_addL, nI_Ladd, nI_mulL, nI_Lmul, pk_mul, pk_sub, nI_subL, nI_Lsub, i2l_nI, Int.toNat_natCast, Nat.not_lt_zero, Nat.zero_le, ifT, ifF, not_true_eq_false, not_false_eq_true, if_true, if_false, or_self, and_self, true_and, and_true, or_true, true_or, false_or, or_false, false_and, and_false]
    exact l
  · have K := K2 z
    simp (disch := first | assumption | omega | decide | (simp only [List.length_cons, List.length_nil, Nat.reduceAdd, Nat.reduceLT]; done) | fail) only [r28_15, r28_16, r28_55, oGF_is, WPo_some, List.getElem?_cons_succ, List.getElem?_cons_zero, kil_n, kil_i, kil_a, kil_u, kil_l, Option.toList_some, Option.toList_none, List.cons_append, List.nil_append, List.set_cons_succ, List.set_cons_zero, addm1, Nat.reduceAdd, List.length_cons, List.length_nil, Nat.reduceLT, nI_clamp, nI_toInt, nI_leL, nI_Lle, nI_ltL, nI_Llt, nI_eqL, nI_Leq, nI_leE, nI_ltE, nI_eqE, nI_eqM, nI_add, nI_addL, nI_Ladd, nI_mulL, nI_Lmul, pk_mul, pk_sub, nI_subL, nI_Lsub, i2l_nI, Int.toNat_natCast, Nat.not_lt_zero, Nat.zero_le, ifT, ifF, not_true_eq_false, not_false_eq_true, if_true, if_false, or_self, and_self, true_and, and_true, or_true, true_or, false_or, or_false, false_and, and_false]
    exact K
theorem c_toAxes {ah : aHp} (hn : n ≤ L) (hL : L ≤ 7) (h1 : 1 ≤ n) {D : Nat → Int64} (h : hg E ah a = some (.inl (1, L, .inr (.inl D)))) : EV E (c + 2) 28 [.ref a, .int (nI n)] ah none (hs E ah a (.inl (1, L, .inr (.inl (bkD n D))))) := by
  refine e28 ?_
  have h0 : hg E ah a ≠ none := by rw [h]; exact fun z => nomatch z
  have e1 := mnL hn (show L ≤ 60 by omega)
  simp (disch := first | assumption | omega | decide | (simp only [List.length_cons, List.length_nil, Nat.reduceAdd, Nat.reduceLT]; done) | fail) only [r28_0, r28_1, r28_1n, r28_2, r28_6, r28_7, r28_7n, r28_8, gN_at h (by decide), q28_3 c_min, q28_9 (c_atZero hn (show L ≤ 60 by omega) h1 h), oGF_is, WPo_some, List.getElem?_cons_succ, List.getElem?_cons_zero, kil_n, kil_i, kil_a, kil_u, kil_l, Option.toList_some, Option.toList_none, List.cons_append, List.nil_append, List.set_cons_succ, List.set_cons_zero, addm1, Nat.reduceAdd, List.length_cons, List.length_nil, Nat.reduceLT, e1, r28_12, r28_13]
  refine l_ahO hn (by omega) (s := 2) (by decide) (by decide) h0 (fun z l4 => ?_) (fun z => ⟨rfl, ?_⟩)
  · refine l_ahO hn (by omega) (s := 4) (by decide) (by decide) h0 (fun z l4 => ?_) (fun z => ⟨rfl, ?_⟩)
    · refine l_ahO hn (by omega) (s := 6) (by decide) (by decide) h0 (fun z l4 => ?_) (fun z => ⟨rfl, ?_⟩)
      · rw [r28_14]
        simp (disch := first | assumption | omega | decide | (simp only [List.length_cons, List.length_nil, Nat.reduceAdd, Nat.reduceLT]; done) | fail) only [r28_15, r28_16, r28_55, oGF_is, WPo_some, List.getElem?_cons_succ, List.getElem?_cons_zero, kil_n, kil_i, kil_a, kil_u, kil_l, Option.toList_some, Option.toList_none, List.cons_append, List.nil_append, List.set_cons_succ, List.set_cons_zero, addm1, Nat.reduceAdd, List.length_cons, List.length_nil, Nat.reduceLT, nI_clamp, nI_toInt, nI_leL, nI_Lle, nI_ltL, nI_Llt, nI_eqL, nI_Leq, nI_leE, nI_ltE, nI_eqE, nI_eqM, nI_add, nI_addL, nI_Ladd, nI_mulL, nI_Lmul, pk_mul, pk_sub, nI_subL, nI_Lsub, i2l_nI, Int.toNat_natCast, Nat.not_lt_zero, Nat.zero_le, ifT, ifF, not_true_eq_false, not_false_eq_true, if_true, if_false, or_self, and_self, true_and, and_true, or_true, true_or, false_or, or_false, false_and, and_false]
        exact rfl
      · unfold bkD toA
        rw [show n - 1 - 6 = 0 by omega, ah1]
    · unfold bkD toA
      rw [show n - 1 - 6 = 0 by omega, show n - 1 - 4 = 0 by omega, ah1, ah1]
  · unfold bkD toA
    rw [show n - 1 - 6 = 0 by omega, show n - 1 - 4 = 0 by omega, show n - 1 - 2 = 0 by omega, ah1, ah1, ah1]
end DFX

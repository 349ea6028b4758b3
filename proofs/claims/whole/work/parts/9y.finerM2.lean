/-! Rounding in two ways; powers of ten -/
theorem nr_split {D b u : Int} (hu : 0 < u) : nrN (D * b) u = D / u * b + nrN ((D - D / u * u) * b) u := by
  have h1 := Int.mul_ediv_add_emod D u
  have e1 : 2 * (D * b) + u = (2 * ((D - D / u * u) * b) + u) + 2 * u * (D / u * b) := by
    grind
  unfold nrN
  rw [e1, Int.add_mul_ediv_left _ _ (by omega), Int.add_comm]
section T10
variable {E : aEnv} {c : Nat} {ah : aHp}
theorem l_t10 {d : Nat} (hd : d ≤ 6) {Q : Option Value → aHp → Prop} (K : WP E c 231 21 [some (.int (nI d)), some (.long (lN (10 ^ d))), none, some (.int (nI d))] [] ah Q) : ∀ z k, k + z = d → WP E c 231 4 [some (.int (nI d)), some (.long (lN (10 ^ k))), none, some (.int (nI k))] [] ah Q
  | 0, k, hz => by
    rw [show k = d by omega, r231_4]
    simp (disch := first | assumption | omega | decide | (simp only [List.length_cons, List.length_nil, Nat.reduceAdd, Nat.reduceLT]; done) | fail) only [r231_5, r231_6, oGF_is, WPo_some, List.getElem?_cons_succ, List.getElem?_cons_zero, kil_n, kil_i, kil_a, kil_u, kil_l, Option.toList_some, Option.toList_none, List.cons_append, List.nil_append, List.set_cons_succ, List.set_cons_zero, addm1, Nat.reduceAdd, List.length_cons, List.length_nil, Nat.reduceLT, nI_clamp, nI_toInt, nI_leL, nI_Lle, nI_ltL, nI_Llt, nI_eqL, nI_Leq, nI_leE, nI_ltE, nI_eqE, nI_eqM, nI_add, nI_addL, nI_Ladd, nI_mulL, nI_Lmul, pk_mul, pk_sub, nI_subL, nI_Lsub, i2l_nI, Int.toNat_natCast, Nat.not_lt_zero, Nat.zero_le, ifT, ifF, not_true_eq_false, not_false_eq_true, if_true, if_false, or_self, and_self, true_and, and_true, or_true, true_or, false_or, or_false, false_and, and_false]
    exact K
  | z + 1, k, hz => by
    have ih := l_t10 hd K z (k + 1) (by omega)
    rw [Nat.pow_succ] at ih
    have e1 : lN (10 ^ k) * 10 = lN (10 ^ k * 10) := lN_mul (10 ^ k) 10
    rw [r231_4]
    generalize 10 ^ k = X at ih e1 ⊢
    simp (disch := first | assumption | omega | decide | (simp only [List.length_cons, List.length_nil, Nat.reduceAdd, Nat.reduceLT]; done) | fail) only [r231_5, r231_6, r231_9, r231_10, r231_13, r231_14, r231_15, r231_18, oGF_is, WPo_some, List.getElem?_cons_succ, List.getElem?_cons_zero, kil_n, kil_i, kil_a, kil_u, kil_l, Option.toList_some, Option.toList_none, List.cons_append, List.nil_append, List.set_cons_succ, List.set_cons_zero, addm1, Nat.reduceAdd, List.length_cons, List.length_nil, Nat.reduceLT, nI_clamp, nI_toInt, nI_leL, nI_Lle, nI_ltL, nI_Llt, nI_eqL, nI_Leq, nI_leE, nI_ltE, nI_eqE, nI_eqM, nI_add, nI_addL, nI_Ladd, nI_mulL, nI_Lmul, pk_mul, pk_sub, nI_subL, nI_Lsub, i2l_nI, Int.toNat_natCast, Nat.not_lt_zero, Nat.zero_le, ifT, ifF, not_true_eq_false, not_false_eq_true, if_true, if_false, or_self, and_self, true_and, and_true, or_true, true_or, false_or, or_false, false_and, and_false, e1]
    exact ih
theorem m_times10 {d : Nat} (hd : d ≤ 6) : EV E c 231 [.int (nI d)] ah (some (.long (lN (10 ^ d)))) ah := by
  refine e231 ?_
  have l := l_t10 (E := E) (c := c) (ah := ah) hd (Q := fun r1 x1 => r1 = some (.long (lN (10 ^ d))) ∧ x1 = ah) (by
    generalize 10 ^ d = X
    simp (disch := first | assumption | omega | decide | (simp only [List.length_cons, List.length_nil, Nat.reduceAdd, Nat.reduceLT]; done) | fail) only [r231_21, r231_22, oGF_is, WPo_some, List.getElem?_cons_succ, List.getElem?_cons_zero, kil_n, kil_i, kil_a, kil_u, kil_l, Option.toList_some, Option.toList_none, List.cons_append, List.nil_append, List.set_cons_succ, List.set_cons_zero, addm1, Nat.reduceAdd, List.length_cons, List.length_nil, Nat.reduceLT, not_true_eq_false, not_false_eq_true, if_true, if_false, or_self, and_self, true_and, and_true, or_true, true_or, false_or, or_false, false_and, and_false]) d 0 (by omega)
  simp (disch := first | assumption | omega | decide | (simp only [List.length_cons, List.length_nil, Nat.reduceAdd, Nat.reduceLT]; done) | fail) only [r231_0, r231_1, r231_2, r231_3, oGF_is, WPo_some, List.getElem?_cons_succ, List.getElem?_cons_zero, kil_n, kil_i, kil_a, kil_u, kil_l, Option.toList_some, Option.toList_none, List.cons_append, List.nil_append, List.set_cons_succ, List.set_cons_zero, addm1, Nat.reduceAdd, List.length_cons, List.length_nil, Nat.reduceLT, not_true_eq_false, not_false_eq_true, if_true, if_false, or_self, and_self, true_and, and_true, or_true, true_or, false_or, or_false, false_and, and_false]
  exact l
end T10

/-! The model's finer table: the scaled values -/
/-- the product of M times each number from n + 1 to k -/
noncomputable def lwN (M k : Nat) : Nat → Nat
  | 0 => 1
  | z + 1 => lwN M k z * (M * (k - z))
noncomputable def unN (M : Nat) : Nat → Nat
  | 0 => 1
  | n + 1 => unN M n * (M * (n + 1))
/-- sum, product and what is left, from n on, z steps to go -/
noncomputable def apL (d : Nat → Int64) (i : Int64) (M k : Nat) : Nat → Nat → Int64 → Int64 → Int64
  | 0, n, s, pr => s + d n * pr * lN (lwN M k 0)
  | z + 1, n, s, pr => apL d i M k z (n + 1) (s + d n * pr * lN (lwN M k (z + 1))) (pr * (i - lN n * lN M))
section FIM
variable {E : aEnv} {c m : Nat} {ah : aHp} {ma : Nat → Nat} {v : Nat → Value} {ai : Nat → Nat → Int32} {al : Nat → Nat → Int64} {M k : Nat}
theorem lwN_le (hM : M ≤ 20) (hk : k ≤ 4) : ∀ z, z ≤ 4 → lwN M k z ≤ 80 ^ z
  | 0, _ => Nat.le_refl _
  | z + 1, hz => by
    have := lwN_le hM hk z (by omega)
    have h1 : M * (k - z) ≤ 20 * 4 := Nat.mul_le_mul hM (by omega)
    rw [lwN, Nat.pow_succ]
    exact Nat.mul_le_mul this h1
theorem l_ap1 (hM : 2 ≤ M ∧ M ≤ 20) (hk : k ≤ 4) {a0 a3 : Option Value} {Q : Option Value → aHp → Prop} {l4 l6 l11 l12 : Option Value} (K : WP E c 233 37 [a0, some (.int (nI k)), some (.int (nI M)), a3, l4, none, l6, none, some (.long (lN (unN M k))), none, some (.int (nI k)), l11, l12] [] ah Q) : ∀ z n, n + z = k → WP E c 233 12 [a0, some (.int (nI k)), some (.int (nI M)), a3, l4, none, l6, none, some (.long (lN (unN M n))), none, some (.int (nI n)), l11, l12] [] ah Q
  | 0, n, hz => by
    rw [show n = k by omega, r233_12]
    simp (disch := first | assumption | omega | decide | (simp only [List.length_cons, List.length_nil, Nat.reduceAdd, Nat.reduceLT]; done) | fail) only [r233_14, r233_15, WPo_some, List.getElem?_cons_succ, List.getElem?_cons_zero, kil_n, kil_i, kil_a, kil_u, kil_l, Option.toList_some, Option.toList_none, List.cons_append, List.nil_append, List.set_cons_succ, List.set_cons_zero, addm1, Nat.reduceAdd, List.length_cons, List.length_nil, Nat.reduceLT, nI_clamp, nI_toInt, nI_leL, nI_Lle, nI_ltL, nI_Llt, nI_eqL, nI_Leq, nI_leE, nI_ltE, nI_eqE, nI_eqM, nI_add, nI_addL, nI_Ladd, nI_mulL, nI_Lmul, pk_mul, pk_sub, nI_subL, nI_Lsub, i2l_nI, Int.toNat_natCast, Nat.not_lt_zero, Nat.zero_le, ifT, ifF, not_true_eq_false, not_false_eq_true, if_true, if_false, or_self, and_self, true_and, and_true, or_true, true_or, false_or, or_false, false_and, and_false]
    exact K
  | z + 1, n, hz => by
    have ih := l_ap1 hM hk K z (n + 1) (by omega)
    rw [unN] at ih
    rw [r233_12]
    simp (disch := first | assumption | omega | decide | (simp only [List.length_cons, List.length_nil, Nat.reduceAdd, Nat.reduceLT]; done) | fail) only [r233_14, r233_15, r233_18, r233_20, r233_21, r233_22, r233_24, r233_25, r233_26, r233_27, r233_28, r233_29, r233_31, r233_34, WPo_some, List.getElem?_cons_succ, List.getElem?_cons_zero, kil_n, kil_i, kil_a, kil_u, kil_l, Option.toList_some, Option.toList_none, List.cons_append, List.nil_append, List.set_cons_succ, List.set_cons_zero, addm1, Nat.reduceAdd, List.length_cons, List.length_nil, Nat.reduceLT, nI_clamp, nI_toInt, nI_leL, nI_Lle, nI_ltL, nI_Llt, nI_eqL, nI_Leq, nI_leE, nI_ltE, nI_eqE, nI_eqM, nI_add, nI_addL, nI_Ladd, nI_mulL, nI_Lmul, pk_mul, pk_sub, nI_subL, nI_Lsub, i2l_nI, Int.toNat_natCast, Nat.not_lt_zero, Nat.zero_le, ifT, ifF, not_true_eq_false, not_false_eq_true, if_true, if_false, or_self, and_self, true_and, and_true, or_true, true_or, false_or, or_false, false_and, and_false, nI_l, lN_mul]
    exact ih
end FIM

/-! The model's finer table: the scaled values -/
/-- the product of M times each number from n + 1 to k -/
noncomputable def lwN (M k : Nat) : Nat → Nat
  | 0 => 1
  | z + 1 => lwN M k z * (M * (k - z))
noncomputable def unN (M : Nat) : Nat → Nat
  | 0 => 1
  | n + 1 => unN M n * (M * (n + 1))
/-- sum, product and what is left, from n on, z steps to go -/
noncomputable def apL (d : Nat → Int64) (i : Int64) (M k : Nat) : Nat → Nat → Int64 → Int64 → Int64
  | 0, n, s, pr => s + d n * pr * lN (lwN M k 0)
  | z + 1, n, s, pr => apL d i M k z (n + 1) (s + d n * pr * lN (lwN M k (z + 1))) (pr * (i - lN n * lN M))
section FIM
variable {E : aEnv} {c m : Nat} {ah : aHp} {ma : Nat → Nat} {v : Nat → Value} {ai : Nat → Nat → Int32} {al : Nat → Nat → Int64} {M k : Nat}
theorem lwN_le (hM : M ≤ 20) (hk : k ≤ 4) : ∀ z, z ≤ 4 → lwN M k z ≤ 80 ^ z
  | 0, _ => Nat.le_refl _
  | z + 1, hz => by
    have := lwN_le hM hk z (by omega)
    have h1 : M * (k - z) ≤ 20 * 4 := Nat.mul_le_mul hM (by omega)
    rw [lwN, Nat.pow_succ]
    exact Nat.mul_le_mul this h1
theorem l_ap1 (hM : 2 ≤ M ∧ M ≤ 20) (hk : k ≤ 4) {a0 a3 : Option Value} {Q : Option Value → aHp → Prop} {l4 l6 l11 l12 : Option Value} (K : WP E c 233 37 [a0, some (.int (nI k)), some (.int (nI M)), a3, l4, none, l6, none, some (.long (lN (unN M k))), none, some (.int (nI k)), l11, l12] [] ah Q) : ∀ z n, n + z = k → WP E c 233 12 [a0, some (.int (nI k)), some (.int (nI M)), a3, l4, none, l6, none, some (.long (lN (unN M n))), none, some (.int (nI n)), l11, l12] [] ah Q
  | 0, n, hz => by
    rw [show n = k by omega, r233_12]
    simp (disch := first | assumption | omega | decide | (simp only [List.length_cons, List.length_nil, Nat.reduceAdd, Nat.reduceLT]; done) | fail) only [r233_14, r233_15, WPo_some, List.getElem?_cons_succ, List.getElem?_cons_zero, kil_n, kil_i, kil_a, kil_u, kil_l, Option.toList_some, Option.toList_none, List.cons_append, List.nil_append, List.set_cons_succ, List.set_cons_zero, addm1, Nat.reduceAdd, List.length_cons, List.length_nil, Nat.reduceLT, nI_clamp, nI_toInt, nI_leL, nI_Lle, nI_ltL, nI_Llt, nI_eqL, nI_Leq, nI_leE, nI_ltE, nI_eqE, nI_eqM, nI_add, nI_addL, nI_Ladd, nI_mulL, nI_Lmul, pk_mul, pk_sub, nI_subL, nI_Lsub, i2l_nI, Int.toNat_natCast, Nat.not_lt_zero, Nat.zero_le, ifT, ifF, not_true_eq_false, not_false_eq_true, if_true, if_false, or_self, and_self, true_and, and_true, or_true, true_or, false_or, or_false, false_and, and_false]
    exact K
  | z + 1, n, hz => by
    have ih := l_ap1 hM hk K z (n + 1) (by omega)
    rw [unN] at ih
    rw [r233_12]
    simp (disch := first | assumption | omega | decide | (simp only [List.length_cons, List.length_nil, Nat.reduceAdd, Nat.reduceLT]; done) | fail) only [r233_14, r233_15, r233_18, r233_20, r233_21, r233_22, r233_24, r233_25, r233_26, r233_27, r233_28, r233_29, r233_31, r233_34, WPo_some, List.getElem?_cons_succ, List.getElem?_cons_zero, kil_n, kil_i, kil_a, kil_u, kil_l, Option.toList_some, Option.toList_none, List.cons_append, List.nil_append, List.set_cons_succ, List.set_cons_zero, addm1, Nat.reduceAdd, List.length_cons, List.length_nil, Nat.reduceLT, nI_clamp, nI_toInt, nI_leL, nI_Lle, nI_ltL, nI_Llt, nI_eqL, nI_Leq, nI_leE, nI_ltE, nI_eqE, nI_eqM, nI_add, nI_addL, nI_Ladd, nI_mulL, nI_Lmul, pk_mul, pk_sub, nI_subL, nI_Lsub, i2l_nI, Int.toNat_natCast, Nat.not_lt_zero, Nat.zero_le, ifT, ifF, not_true_eq_false, not_false_eq_true, if_true, if_false, or_self, and_self, true_and, and_true, or_true, true_or, false_or, or_false, false_and, and_false, nI_l, lN_mul]
    exact ih
theorem l_ap2 (h : MO E ah m ma) (hM : 2 ≤ M ∧ M ≤ 20) (hk : k ≤ 4) {i : Int32} {l8 : Option Value} : ∀ z n s pr, n + z = k → WP E c 233 44 [some (.ref m), some (.int (nI k)), some (.int (nI M)), some (.int i), some (.long s), none, some (.long pr), none, l8, none, some (.long (lN (lwN M k z))), none, some (.int (nI n))] [] (mh E ah m ma v ai al) (fun r1 x1 => r1 = some (.long (apL (al 96) i.toInt64 M k z n s pr)) ∧ x1 = mh E ah m ma v ai al)
  | 0, n, s, pr, hz => by
    rw [show n = k by omega, r233_44]
    simp (disch := first | assumption | omega | decide | (simp only [List.length_cons, List.length_nil, Nat.reduceAdd, Nat.reduceLT]; done) | fail) only [r233_46, r233_47, r233_50, r233_52, r233_53, r233_56, r233_58, r233_59, r233_61, r233_62, r233_64, r233_65, r233_66, r233_68, r233_70, r233_71, r233_72, r233_74, r233_75, r233_76, r233_77, r233_78, r233_79, r233_80, r233_82, r233_84, r233_85, r233_88, r233_90, r233_91, r233_92, r233_94, r233_95, r233_96, r233_97, r233_99, r233_102, r233_104, r233_106, r233_109, r233_44, r233_112, r233_114, mh_o h, gm_96, gL, hm_96 h, WPo_some, List.getElem?_cons_succ, List.getElem?_cons_zero, kil_n, kil_i, kil_a, kil_u, kil_l, Option.toList_some, Option.toList_none, List.cons_append, List.nil_append, List.set_cons_succ, List.set_cons_zero, addm1, Nat.reduceAdd, List.length_cons, List.length_nil, Nat.reduceLT, nI_clamp, nI_toInt, nI_leL, nI_Lle, nI_ltL, nI_Llt, nI_eqL, nI_Leq, nI_leE, nI_ltE, nI_eqE, nI_eqM, nI_add, nI_addL, nI_Ladd, nI_mulL, nI_Lmul, pk_mul, pk_sub, nI_subL, nI_Lsub, i2l_nI, Int.toNat_natCast, Nat.not_lt_zero, Nat.zero_le, ifT, ifF, not_true_eq_false, not_false_eq_true, if_true, if_false, or_self, and_self, true_and, and_true, or_true, true_or, false_or, or_false, false_and, and_false, nI_l, lN_mul]
    exact rfl
  | z + 1, n, s, pr, hz => by
    have ih := l_ap2 h hM hk (i := i) (l8 := l8) z (n + 1) (s + al 96 n * pr * lN (lwN M k (z + 1))) (pr * (i.toInt64 - lN n * lN M)) (by omega)
    have b1 := lwN_le hM.2 hk (z + 1) (by omega)
    have b2 : (80 : Nat) ^ (z + 1) ≤ 80 ^ 4 := Nat.pow_le_pow_right (by decide) (by omega)
    have b3 : (80 : Nat) ^ 4 = 40960000 := by decide
    have p1 : 1 ≤ M * (n + 1) := Nat.mul_pos (by omega) (by omega)
    have p2 : M * (n + 1) ≤ 20 * 5 := Nat.mul_le_mul hM.2 (by omega)
    have y0 : ¬ lN (M * (n + 1)) = 0 := fun y => by
      have := congrArg Int64.toInt y
      rw [lN_toInt63 (by omega)] at this
      have e : (0 : Int64).toInt = 0 := rfl
      omega
    have d1 : lN (lwN M k (z + 1)) / lN (M * (n + 1)) = lN (lwN M k z) := by
      rw [lN_div (by omega) (by omega) p1]
      congr 1
      rw [lwN, show k - z = n + 1 by omega, Nat.mul_div_cancel _ p1]
    rw [r233_44]
    simp (disch := first | assumption | omega | decide | (simp only [List.length_cons, List.length_nil, Nat.reduceAdd, Nat.reduceLT]; done) | fail) only [r233_46, r233_47, r233_50, r233_52, r233_53, r233_56, r233_58, r233_59, r233_61, r233_62, r233_64, r233_65, r233_66, r233_68, r233_70, r233_71, r233_72, r233_74, r233_75, r233_76, r233_77, r233_78, r233_79, r233_80, r233_82, r233_84, r233_85, r233_88, r233_90, r233_91, r233_92, r233_94, r233_95, r233_96, r233_97, r233_99, r233_102, r233_104, r233_106, r233_109, r233_98, mh_o h, gm_96, gL, hm_96 h, WPo_some, List.getElem?_cons_succ, List.getElem?_cons_zero, kil_n, kil_i, kil_a, kil_u, kil_l, Option.toList_some, Option.toList_none, List.cons_append, List.nil_append, List.set_cons_succ, List.set_cons_zero, addm1, Nat.reduceAdd, List.length_cons, List.length_nil, Nat.reduceLT, nI_clamp, nI_toInt, nI_leL, nI_Lle, nI_ltL, nI_Llt, nI_eqL, nI_Leq, nI_leE, nI_ltE, nI_eqE, nI_eqM, nI_add, nI_addL, nI_Ladd, nI_mulL, nI_Lmul, pk_mul, pk_sub, nI_subL, nI_Lsub, i2l_nI, Int.toNat_natCast, Nat.not_lt_zero, Nat.zero_le, ifT, ifF, not_true_eq_false, not_false_eq_true, if_true, if_false, or_self, and_self, true_and, and_true, or_true, true_or, false_or, or_false, false_and, and_false, nI_l]
    rw [show lN M * lN (n + 1) = lN (M * (n + 1)) from lN_mul _ _, r233_98 y0, d1]
    simp (disch := first | assumption | omega | decide | (simp only [List.length_cons, List.length_nil, Nat.reduceAdd, Nat.reduceLT]; done) | fail) only [r233_99, r233_102, r233_104, r233_106, r233_109, WPo_some, List.getElem?_cons_succ, List.getElem?_cons_zero, kil_n, kil_i, kil_a, kil_u, kil_l, Option.toList_some, Option.toList_none, List.cons_append, List.nil_append, List.set_cons_succ, List.set_cons_zero, addm1, Nat.reduceAdd, List.length_cons, List.length_nil, Nat.reduceLT, nI_clamp, nI_toInt, nI_leL, nI_Lle, nI_ltL, nI_Llt, nI_eqL, nI_Leq, nI_leE, nI_ltE, nI_eqE, nI_eqM, nI_add, nI_addL, nI_Ladd, nI_mulL, nI_Lmul, pk_mul, pk_sub, nI_subL, nI_Lsub, i2l_nI, Int.toNat_natCast, Nat.not_lt_zero, Nat.zero_le, ifT, ifF, not_true_eq_false, not_false_eq_true, if_true, if_false, or_self, and_self, true_and, and_true, or_true, true_or, false_or, or_false, false_and, and_false]
    exact ih
theorem un_lw (hk : k ≤ 4) (hk1 : 1 ≤ k) : unN M k = lwN M k k := by
  rcases (show k = 1 ∨ k = 2 ∨ k = 3 ∨ k = 4 by omega) with rfl | rfl | rfl | rfl
  · simp [unN, lwN]
  · simp [unN, lwN]; grind
  · simp [unN, lwN]; grind
  · simp [unN, lwN]; grind
theorem m_atPart (h : MO E ah m ma) (hM : 2 ≤ M ∧ M ≤ 20) (hk : k ≤ 4) (hk1 : 1 ≤ k) {i : Int32} : EV E c 233 [.ref m, .int (nI k), .int (nI M), .int i] (mh E ah m ma v ai al) (some (.long (apL (al 96) i.toInt64 M k k 0 0 1))) (mh E ah m ma v ai al) := by
  refine e233 ?_
  have l2 := l_ap2 (c := c) (v := v) (ai := ai) (al := al) h hM hk (i := i) (l8 := some (.long (lN (unN M k)))) k 0 0 1 (by omega)
  rw [← un_lw hk hk1] at l2
  have l1 := l_ap1 (E := E) (c := c) (ah := mh E ah m ma v ai al) hM hk (a0 := some (.ref m)) (a3 := some (.int i)) (l4 := some (.long 0)) (l6 := some (.long 1)) (l11 := none) (l12 := none) (Q := fun r1 x1 => r1 = some (.long (apL (al 96) i.toInt64 M k k 0 0 1)) ∧ x1 = mh E ah m ma v ai al) (by
    simp (disch := first | assumption | omega | decide | (simp only [List.length_cons, List.length_nil, Nat.reduceAdd, Nat.reduceLT]; done) | fail) only [r233_37, r233_39, r233_41, r233_42, WPo_some, List.getElem?_cons_succ, List.getElem?_cons_zero, kil_n, kil_i, kil_a, kil_u, kil_l, Option.toList_some, Option.toList_none, List.cons_append, List.nil_append, List.set_cons_succ, List.set_cons_zero, addm1, Nat.reduceAdd, List.length_cons, List.length_nil, Nat.reduceLT, not_true_eq_false, not_false_eq_true, if_true, if_false, or_self, and_self, true_and, and_true, or_true, true_or, false_or, or_false, false_and, and_false]
    exact l2) k 0 (by omega)
  simp (disch := first | assumption | omega | decide | (simp only [List.length_cons, List.length_nil, Nat.reduceAdd, Nat.reduceLT]; done) | fail) only [r233_0, r233_1, r233_3, r233_4, r233_6, r233_7, r233_9, r233_10, WPo_some, List.getElem?_cons_succ, List.getElem?_cons_zero, kil_n, kil_i, kil_a, kil_u, kil_l, Option.toList_some, Option.toList_none, List.cons_append, List.nil_append, List.set_cons_succ, List.set_cons_zero, addm1, Nat.reduceAdd, List.length_cons, List.length_nil, Nat.reduceLT, not_true_eq_false, not_false_eq_true, if_true, if_false, or_self, and_self, true_and, and_true, or_true, true_or, false_or, or_false, false_and, and_false]
  exact l1
theorem ap_sv {d : Nat → Int64} {i : Int64} (hk : k ≤ 4) (hk1 : 1 ≤ k) : apL d i M k k 0 0 1 = svP d (lN M) k i := by
  have e : ∀ a b, lN (a * b) = lN a * lN b := fun a b => (lN_mul a b).symm
  have n1 : lN 1 = 1 := rfl
  have n2 : lN 2 = 2 := rfl
  have n3 : lN 3 = 3 := rfl
  have n4 : lN 4 = 4 := rfl
  have n0 : lN 0 = 0 := rfl
  rcases (show k = 1 ∨ k = 2 ∨ k = 3 ∨ k = 4 by omega) with rfl | rfl | rfl | rfl
  · rw [sv_1]; simp only [apL, lwN, e, p1, n0, n1, Nat.reduceSub, Nat.reduceAdd]; grind
  · rw [sv_2]; simp only [apL, lwN, e, p2, n0, n1, n2, Nat.reduceSub, Nat.reduceAdd]; grind
  · rw [sv_3]; simp only [apL, lwN, e, p3, n0, n1, n2, n3, Nat.reduceSub, Nat.reduceAdd]; grind
  · rw [sv_4]; simp only [apL, lwN, e, p4, n0, n1, n2, n3, n4, Nat.reduceSub, Nat.reduceAdd]; grind
end FIM

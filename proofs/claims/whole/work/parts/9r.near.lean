/-! Floor division and the nearest number -/
theorem td_ed {x y : Int} (hy : 0 < y) : x / y = if x < 0 ∧ ¬ x.tdiv y * y = x then x.tdiv y - 1 else x.tdiv y := by
  have h1 := Int.mul_tdiv_add_tmod x y
  have h2 := Int.mul_ediv_add_emod x y
  have h3 := tm_em (x := x) hy
  have h4 := Int.emod_nonneg x (show y ≠ 0 by omega)
  have h5 := Int.emod_lt_of_pos x hy
  have c1 : x.tdiv y * y = y * x.tdiv y := Int.mul_comm _ _
  have key : ∀ p q : Int, y * p = y * q → p = q := fun p q e => Int.eq_of_mul_eq_mul_left (by omega) e
  by_cases z : x < 0 ∧ ¬ x.tmod y = 0
  · rw [if_pos z] at h3
    rw [if_pos ⟨z.1, by rw [c1]; omega⟩]
    apply key
    rw [Int.mul_sub, Int.mul_one]
    omega
  · rw [if_neg z] at h3
    rw [if_neg (by rw [c1]; omega)]
    apply key
    omega
section FD
variable {E : aEnv} {c : Nat} {ah : aHp}
theorem c_floorDiv {x y : Int64} (hy : 0 < y.toInt) : EV E c 289 [.long x, .long y] ah (some (.long (iL (x.toInt / y.toInt)))) ah := by
  refine e289 ?_
  have y0 : ¬ y = 0 := fun z => by rw [z] at hy; exact absurd hy (by decide)
  have rx := i64_rg x
  have ry := i64_rg y
  have e0 := tdiv_rg rx hy
  have e1 : x / y = iL (x.toInt.tdiv y.toInt) := by rw [← i64_div hy, ← iL_of]
  have e2 := td_ed (x := x.toInt) hy
  have e4 : (0 ≤ x ^^^ y) = ¬ x.toInt < 0 := by
    rw [i64_le, ← xor_neg hy]
    apply propext
    show (0 : Int) ≤ _ ↔ _
    omega
  have tr := Int.mul_tdiv_add_tmod x.toInt y.toInt
  have t1 := Int.tmod_lt_of_pos x.toInt hy
  have t2 := Int.lt_tmod_of_pos x.toInt hy
  have c1 : x.toInt.tdiv y.toInt * y.toInt = y.toInt * x.toInt.tdiv y.toInt := Int.mul_comm _ _
  have e3 : (iL (x.toInt.tdiv y.toInt) * y = x) = (x.toInt.tdiv y.toInt * y.toInt = x.toInt) := by
    have e5 : iL (x.toInt.tdiv y.toInt) * y = iL (x.toInt.tdiv y.toInt * y.toInt) := by
      rw [← iL_mul, ← iL_of y]
    have b1 : -9223372036854775808 ≤ x.toInt.tdiv y.toInt * y.toInt ∧ x.toInt.tdiv y.toInt * y.toInt < 9223372036854775808 := by
      by_cases z : 0 ≤ x.toInt
      · have q1 := Int.tmod_nonneg (b := y.toInt) z
        have q2 := Int.mul_nonneg (Int.le_of_lt hy) (Int.tdiv_nonneg z (Int.le_of_lt hy))
        omega
      · have q1 : (-x.toInt).tmod y.toInt = - x.toInt.tmod y.toInt := Int.neg_tmod ..
        have q2 := Int.tmod_nonneg (a := -x.toInt) (b := y.toInt) (by omega)
        have q3 : (-x.toInt).tdiv y.toInt = - x.toInt.tdiv y.toInt := Int.neg_tdiv ..
        have q4 := Int.mul_nonneg (Int.le_of_lt hy) (Int.tdiv_nonneg (a := -x.toInt) (b := y.toInt) (by omega) (Int.le_of_lt hy))
        rw [q3, Int.mul_neg] at q4
        omega
    rw [e5]
    have e7 : (iL (x.toInt.tdiv y.toInt * y.toInt) = x) = (iL (x.toInt.tdiv y.toInt * y.toInt) = iL x.toInt) := by rw [← iL_of x]
    rw [e7, iL_eq b1.1 b1.2 rx.1 rx.2]
  have e6 : iL (x.toInt.tdiv y.toInt) - 1 = iL (x.toInt.tdiv y.toInt - 1) := by
    rw [← iL_sub]
    rfl
  simp (disch := first | assumption | omega | decide | (simp only [List.length_cons, List.length_nil, Nat.reduceAdd, Nat.reduceLT]; done) | fail) only [r289_0, r289_1, r289_3, r289_5, r289_6, r289_7, r289_8, r289_9, r289_10, r289_13, r289_15, r289_16, r289_17, r289_18, r289_19, r289_22, r289_24, r289_25, r289_26, r289_27, r289_29, r289_2, e1, oGF_is, WPo_some, List.getElem?_cons_succ, List.getElem?_cons_zero, kil_n, kil_i, kil_a, kil_u, kil_l, Option.toList_some, Option.toList_none, List.cons_append, List.nil_append, List.set_cons_succ, List.set_cons_zero, addm1, Nat.reduceAdd, List.length_cons, List.length_nil, Nat.reduceLT, not_true_eq_false, not_false_eq_true, if_true, if_false, or_self, and_self, true_and, and_true, or_true, true_or, false_or, or_false, false_and, and_false]
  simp only [lg_cmp_ge, lg_cmp_eq, e3, e4, e6]
  rw [e2]
  by_cases z1 : x.toInt < 0
  · by_cases z2 : x.toInt.tdiv y.toInt * y.toInt = x.toInt
    · simp only [z1, z2, not_true_eq_false, not_false_eq_true, if_true, if_false, or_self, and_self, true_and, and_true, or_true, true_or, false_or, or_false, false_and, and_false]
    · simp only [z1, z2, not_true_eq_false, not_false_eq_true, if_true, if_false, or_self, and_self, true_and, and_true, or_true, true_or, false_or, or_false, false_and, and_false]
  · simp only [z1, not_true_eq_false, not_false_eq_true, if_true, if_false, or_self, and_self, true_and, and_true, or_true, true_or, false_or, or_false, false_and, and_false]
noncomputable def nrN (a b : Int) : Int := (2 * a + b) / (2 * b)
theorem near_i {a b : Int} (ha : -1000000000000000000 ≤ a ∧ a ≤ 1000000000000000000) (hb : 0 < b ∧ b ≤ 1000000000000000000) : (2 * iL a + iL b).toInt = 2 * a + b ∧ (2 * iL b).toInt = 2 * b := by
  have e2 : (2 : Int64) = iL 2 := rfl
  rw [e2, iL_mul, iL_mul, iL_add, iL_toInt (by omega) (by omega), iL_toInt (by omega) (by omega)]
  exact ⟨rfl, rfl⟩
theorem c_nearest {a b : Int} (ha : -1000000000000000000 ≤ a ∧ a ≤ 1000000000000000000) (hb : 0 < b ∧ b ≤ 1000000000000000000) : EV E (c + 1) 31 [.long (iL a), .long (iL b)] ah (some (.long (iL (nrN a b)))) ah := by
  refine e31 ?_
  obtain ⟨e1, e2⟩ := near_i ha hb
  have k := c_floorDiv (E := E) (c := c) (ah := ah) (x := 2 * iL a + iL b) (y := 2 * iL b) (by rw [e2]; omega)
  rw [e1, e2] at k
  have e0 : ¬ iL b ≤ 0 := by
    rw [iL_0, iL_le (by omega) (by omega) (by omega) (by omega)]
    omega
  simp (disch := first | assumption | omega | decide | (simp only [List.length_cons, List.length_nil, Nat.reduceAdd, Nat.reduceLT]; done) | fail) only [r31_0, r31_1, r31_2, r31_3, r31_6, r31_9, r31_10, r31_11, r31_12, r31_13, r31_16, r31_17, r31_21, r31_24, r31_25, q31_18 k, lg_cmp_le, e0, oGF_is, WPo_some, List.getElem?_cons_succ, List.getElem?_cons_zero, kil_n, kil_i, kil_a, kil_u, kil_l, Option.toList_some, Option.toList_none, List.cons_append, List.nil_append, List.set_cons_succ, List.set_cons_zero, addm1, Nat.reduceAdd, List.length_cons, List.length_nil, Nat.reduceLT, not_true_eq_false, not_false_eq_true, if_true, if_false, or_self, and_self, true_and, and_true, or_true, true_or, false_or, or_false, false_and, and_false]
  exact rfl
theorem m_nearest {a b : Int} (ha : -1000000000000000000 ≤ a ∧ a ≤ 1000000000000000000) (hb : 0 < b ∧ b ≤ 1000000000000000000) : EV E (c + 1) 232 [.long (iL a), .long (iL b)] ah (some (.long (iL (nrN a b)))) ah := by
  refine e232 ?_
  obtain ⟨e1, e2⟩ := near_i ha hb
  have k := c_floorDiv (E := E) (c := c) (ah := ah) (x := 2 * iL a + iL b) (y := 2 * iL b) (by rw [e2]; omega)
  rw [e1, e2] at k
  simp (disch := first | assumption | omega | decide | (simp only [List.length_cons, List.length_nil, Nat.reduceAdd, Nat.reduceLT]; done) | fail) only [r232_0, r232_3, r232_4, r232_5, r232_6, r232_7, r232_10, r232_11, r232_15, q232_12 k, oGF_is, WPo_some, List.getElem?_cons_succ, List.getElem?_cons_zero, kil_n, kil_i, kil_a, kil_u, kil_l, Option.toList_some, Option.toList_none, List.cons_append, List.nil_append, List.set_cons_succ, List.set_cons_zero, addm1, Nat.reduceAdd, List.length_cons, List.length_nil, Nat.reduceLT, not_true_eq_false, not_false_eq_true, if_true, if_false, or_self, and_self, true_and, and_true, or_true, true_or, false_or, or_false, false_and, and_false]
  exact rfl
end FD

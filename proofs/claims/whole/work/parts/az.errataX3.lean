/-! Errata of the class: which changes are left -/
noncomputable def nwD (D cc : Int) : Int := if cc < 0 then -D else D
noncomputable def nLo (b : Nat) (L D cc : Int) : Int := max L (-(((b : Int) + nwD D cc) / (cc.natAbs : Int)))
noncomputable def nHi (b : Nat) (H D cc : Int) : Int := min H (((b : Int) - nwD D cc) / (cc.natAbs : Int))
theorem nar_iff {b : Nat} {L H D cc x : Int} (hc : cc ≠ 0) : (nLo b L D cc ≤ x ∧ x ≤ nHi b H D cc) ↔ ((L ≤ x ∧ x ≤ H) ∧ (D + cc * x).natAbs ≤ b) := by
  unfold nLo nHi
  have hp : (0 : Int) < (cc.natAbs : Int) := by omega
  have k1 : (x ≤ ((b : Int) - nwD D cc) / (cc.natAbs : Int)) ↔ x * (cc.natAbs : Int) ≤ (b : Int) - nwD D cc := Int.le_ediv_iff_mul_le hp
  have k2 : (-x ≤ ((b : Int) + nwD D cc) / (cc.natAbs : Int)) ↔ -x * (cc.natAbs : Int) ≤ (b : Int) + nwD D cc := Int.le_ediv_iff_mul_le hp
  have e : nwD D cc + x * (cc.natAbs : Int) = D + cc * x ∨ nwD D cc + x * (cc.natAbs : Int) = -(D + cc * x) := by
    unfold nwD
    by_cases z : cc < 0
    · rw [if_pos z]
      refine Or.inr ?_
      rw [show ((cc.natAbs : Nat) : Int) = -cc by omega, Int.mul_neg, Int.mul_comm x cc]
      omega
    · rw [if_neg z]
      refine Or.inl ?_
      rw [show ((cc.natAbs : Nat) : Int) = cc by omega, Int.mul_comm x cc]
  have e2 : -x * (cc.natAbs : Int) = -(x * (cc.natAbs : Int)) := Int.neg_mul ..
  rw [e2] at k2
  have m1 : (max L (-(((b : Int) + nwD D cc) / (cc.natAbs : Int))) ≤ x) ↔ (L ≤ x ∧ -x ≤ ((b : Int) + nwD D cc) / (cc.natAbs : Int)) := by omega
  have m2 : (x ≤ min H (((b : Int) - nwD D cc) / (cc.natAbs : Int))) ↔ (x ≤ H ∧ x ≤ ((b : Int) - nwD D cc) / (cc.natAbs : Int)) := by omega
  rw [m1, m2, k1, k2]
  omega
theorem nar_bd {b : Nat} {L H D cc : Int} (hc : cc ≠ 0) (hb : b ≤ 1000) (hD : D.natAbs ≤ 100000000000) (hL : L.natAbs ≤ 1000000000000) (hH : H.natAbs ≤ 1000000000000) : (nLo b L D cc).natAbs ≤ 1000000000000 ∧ (nHi b H D cc).natAbs ≤ 1000000000000 ∧ (((b : Int) + nwD D cc) / (cc.natAbs : Int)).natAbs ≤ 200000000000 ∧ (((b : Int) - nwD D cc) / (cc.natAbs : Int)).natAbs ≤ 200000000000 ∧ (nwD D cc).natAbs ≤ 100000000000 := by
  have hw : (nwD D cc).natAbs ≤ 100000000000 := by
    unfold nwD
    split <;> omega
  have key : ∀ x : Int, x.natAbs ≤ 100000001000 → (x / (cc.natAbs : Int)).natAbs ≤ 200000000000 := by
    intro x hx
    have hp : (0 : Int) < (cc.natAbs : Int) := by omega
    have u : x / (cc.natAbs : Int) ≤ 100000001000 := by
      have : x / (cc.natAbs : Int) ≤ 100000001000 / (cc.natAbs : Int) := Int.ediv_le_ediv hp (by omega)
      have : (100000001000 : Int) / (cc.natAbs : Int) ≤ 100000001000 := Int.ediv_le_self _ (by decide)
      omega
    have l : -100000001000 ≤ x / (cc.natAbs : Int) := by
      rw [Int.le_ediv_iff_mul_le hp]
      have : (1 : Int) ≤ (cc.natAbs : Int) := by omega
      have : (100000001000 : Int) * 1 ≤ 100000001000 * (cc.natAbs : Int) := Int.mul_le_mul_of_nonneg_left this (by decide)
      rw [Int.neg_mul]
      omega
    omega
  have k1 := key ((b : Int) + nwD D cc) (by omega)
  have k2 := key ((b : Int) - nwD D cc) (by omega)
  unfold nLo nHi
  refine ⟨by omega, by omega, k1, k2, hw⟩
section EX3
variable {E : aEnv} {c : Nat} {ah : aHp} {A : Nat → Nat} {S : Nat → aE} {fn : Int32} {lo hi : Int64} {vl oc wi sh : Nat → Int32} {dl : Nat → Int64} {OP : Nat → Nat → Int32} {n k b : Nat} {V : Nat → Nat}
theorem c_minL {x y : Int64} : EV E c 295 [.long x, .long y] ah (some (.long (if y < x then y else x))) ah := by
  refine e295 ?_
  simp only [r295_0, r295_1, r295_2, r295_3, r295_6, r295_7, r295_10, r295_11, oGF_is, WPo_some, List.getElem?_cons_succ, List.getElem?_cons_zero, kil_n, kil_i, kil_a, kil_u, kil_l, Option.toList_some, Option.toList_none, List.cons_append, List.nil_append, List.set_cons_succ, List.set_cons_zero, addm1, Nat.reduceAdd, List.length_cons, List.length_nil, Nat.reduceLT, not_true_eq_false, not_false_eq_true, if_true, if_false, or_self, and_self, true_and, and_true, or_true, true_or, false_or, or_false, false_and, and_false, lg_cmp_gt]
  repeat' split
  all_goals first | exact trivial | exact ⟨rfl, rfl⟩ | (exfalso; omega) | (exfalso; simp_all; done) | (simp_all; done)
theorem iL_abs {z : Int} (h : z.natAbs < 2 ^ 62) : lN (iL z).toInt.natAbs = iL (z.natAbs : Int) := by
  rw [iL_toInt (by omega) (by omega), lN_iL]
theorem c_narrow (hO : XO E ah A) (hb : b ≤ 1000) {L H D cc : Int} (hc : cc ≠ 0) (hc6 : cc.natAbs ≤ 6) (hD : D.natAbs ≤ 100000000000) (hL : L.natAbs ≤ 1000000000000) (hH : H.natAbs ≤ 1000000000000) : EV E (c + 1) 72 [.ref (A 19), .long (iL D), .long (iL cc)] (oh E ah A (eS A S fn (nI n) (nI k) (nI b) (iL L) (iL H) vl oc wi sh dl OP)) none (oh E ah A (eS A S fn (nI n) (nI k) (nI b) (iL (nLo b L D cc)) (iL (nHi b H D cc)) vl oc wi sh dl OP)) := by
  obtain ⟨b1, b2, b3, b4, b5⟩ := nar_bd (b := b) (L := L) (H := H) (D := D) hc hb hD hL hH
  have ka := c_absL (E := E) (c := c) (ah := oh E ah A (eS A S fn (nI n) (nI k) (nI b) (iL L) (iL H) vl oc wi sh dl OP)) (x := iL cc) (by rw [iL_toInt (by omega) (by omega)]; omega)
  rw [iL_abs (by omega)] at ka
  have a0 : ¬ iL (cc.natAbs : Int) = 0 := by rw [iL_0, iL_eq (by omega) (by omega) (by omega) (by omega)]; omega
  have eb : (nI b).toInt64 = iL b := iL_nI (by omega)
  have cT : (iL (cc.natAbs : Int)).toInt = (cc.natAbs : Int) := iL_toInt (by omega) (by omega)
  have kf1 := fun ah => c_floorDiv (E := E) (c := c) (ah := ah) (x := iL ((b : Int) + nwD D cc)) (y := iL (cc.natAbs : Int)) (by rw [cT]; omega)
  have kf2 := fun ah => c_floorDiv (E := E) (c := c) (ah := ah) (x := iL ((b : Int) - nwD D cc)) (y := iL (cc.natAbs : Int)) (by rw [cT]; omega)
  rw [cT, iL_toInt (by omega) (by omega)] at kf1 kf2
  have e1 : (if iL L < iL (-(((b : Int) + nwD D cc) / (cc.natAbs : Int))) then iL (-(((b : Int) + nwD D cc) / (cc.natAbs : Int))) else iL L) = iL (nLo b L D cc) := by
    have q := iL_lt (a := L) (b := -(((b : Int) + nwD D cc) / (cc.natAbs : Int))) (by omega) (by omega) (by omega) (by omega)
    unfold nLo
    split
    · next h => rw [q] at h; congr 1; omega
    · next h => rw [q] at h; congr 1; omega
  have e2 : (if iL (((b : Int) - nwD D cc) / (cc.natAbs : Int)) < iL H then iL (((b : Int) - nwD D cc) / (cc.natAbs : Int)) else iL H) = iL (nHi b H D cc) := by
    have q := iL_lt (a := ((b : Int) - nwD D cc) / (cc.natAbs : Int)) (b := H) (by omega) (by omega) (by omega) (by omega)
    unfold nHi
    split
    · next h => rw [q] at h; congr 1; omega
    · next h => rw [q] at h; congr 1; omega
  refine e72 ?_
  by_cases z : cc < 0
  · have ew : - iL D = iL (nwD D cc) := by unfold nwD; rw [if_pos z, iL_neg]
    have z' : ¬ 0 ≤ iL cc := by rw [iL_0, iL_le (by omega) (by omega) (by omega) (by omega)]; omega
    simp (disch := first | assumption | omega | decide | (simp only [List.length_cons, List.length_nil, Nat.reduceAdd, Nat.reduceLT]; done) | fail) only [r72_0, r72_4, r72_6, r72_8, r72_9, r72_10, r72_13, r72_14, r72_15, r72_16, r72_17, r72_20, r72_21, r72_22, r72_25, r72_26, r72_28, r72_29, r72_30, r72_33, r72_34, r72_37, r72_38, r72_40, r72_41, r72_46, r72_50, r72_53, r72_54, r72_55, r72_58, r72_59, r72_62, r72_63, r72_65, r72_66, r72_74, r72_77, q72_1 ka, lg_cmp_eq, lg_cmp_ge, a0, z', ew, hr19 hO, sr19 hO, eb, iL_add, iL_sub, q72_43 (kf1 _), q72_47 c_maxL, q72_68 (kf2 _), q72_71 c_minL, iL_neg, e1, e2, pf_3101, pf_3111, oGF_is, WPo_some, List.getElem?_cons_succ, List.getElem?_cons_zero, kil_n, kil_i, kil_a, kil_u, kil_l, Option.toList_some, Option.toList_none, List.cons_append, List.nil_append, List.set_cons_succ, List.set_cons_zero, addm1, Nat.reduceAdd, List.length_cons, List.length_nil, Nat.reduceLT, not_true_eq_false, not_false_eq_true, if_true, if_false, or_self, and_self, true_and, and_true, or_true, true_or, false_or, or_false, false_and, and_false]
  · have ew : iL D = iL (nwD D cc) := by unfold nwD; rw [if_neg z]
    have z' : 0 ≤ iL cc := by rw [iL_0, iL_le (by omega) (by omega) (by omega) (by omega)]; omega
    rw [ew]
    simp (disch := first | assumption | omega | decide | (simp only [List.length_cons, List.length_nil, Nat.reduceAdd, Nat.reduceLT]; done) | fail) only [r72_0, r72_4, r72_6, r72_8, r72_9, r72_10, r72_13, r72_14, r72_15, r72_16, r72_17, r72_20, r72_21, r72_22, r72_25, r72_26, r72_28, r72_29, r72_30, r72_33, r72_34, r72_37, r72_38, r72_40, r72_41, r72_46, r72_50, r72_53, r72_54, r72_55, r72_58, r72_59, r72_62, r72_63, r72_65, r72_66, r72_74, r72_77, q72_1 ka, lg_cmp_eq, lg_cmp_ge, a0, z', hr19 hO, sr19 hO, eb, iL_add, iL_sub, q72_43 (kf1 _), q72_47 c_maxL, q72_68 (kf2 _), q72_71 c_minL, iL_neg, e1, e2, pf_3101, pf_3111, oGF_is, WPo_some, List.getElem?_cons_succ, List.getElem?_cons_zero, kil_n, kil_i, kil_a, kil_u, kil_l, Option.toList_some, Option.toList_none, List.cons_append, List.nil_append, List.set_cons_succ, List.set_cons_zero, addm1, Nat.reduceAdd, List.length_cons, List.length_nil, Nat.reduceLT, not_true_eq_false, not_false_eq_true, if_true, if_false, or_self, and_self, true_and, and_true, or_true, true_or, false_or, or_false, false_and, and_false]
theorem c_widen (hO : XO E ah A) {mn od bd : Int32} : EV E c 71 [.ref (A 19)] (oh E ah A (eS A S fn mn od bd lo hi vl oc wi sh dl OP)) none (oh E ah A (eS A S fn mn od bd (iL (-99999999)) (iL 99999999) vl oc wi sh dl OP)) := by
  refine e71 ?_
  have e1 : (-99999999 : Int64) = iL (-99999999) := rfl
  have e2 : (99999999 : Int64) = iL 99999999 := rfl
  simp (disch := first | assumption | omega | decide | (simp only [List.length_cons, List.length_nil, Nat.reduceAdd, Nat.reduceLT]; done) | fail) only [r71_0, r71_1, r71_4, r71_7, r71_8, r71_11, r71_14, hr19 hO, sr19 hO, pf_3101, pf_3111, oGF_is, WPo_some, List.getElem?_cons_succ, List.getElem?_cons_zero, kil_n, kil_i, kil_a, kil_u, kil_l, Option.toList_some, Option.toList_none, List.cons_append, List.nil_append, List.set_cons_succ, List.set_cons_zero, addm1, Nat.reduceAdd, List.length_cons, List.length_nil, Nat.reduceLT, not_true_eq_false, not_false_eq_true, if_true, if_false, or_self, and_self, true_and, and_true, or_true, true_or, false_or, or_false, false_and, and_false]
  rw [e1, e2]
theorem c_first (hO : XO E ah A) {mn bd : Int32} {i : Nat} (hi' : i < 20) (hk : k ≤ 4) : EV E (c + 1) 69 [.ref (A 19), .int (nI i)] (oh E ah A (eS A S fn mn (nI k) bd lo hi vl oc wi sh dl OP)) (some (.int (nI (i - k)))) (oh E ah A (eS A S fn mn (nI k) bd lo hi vl oc wi sh dl OP)) := by
  refine e69 ?_
  have e : (if (0 : Int32) < nI i - nI k then nI i - nI k else 0) = nI (i - k) := by
    by_cases z : k < i
    · rw [if_pos (by rw [i32_lt, ii_sub (by omega) (by omega)]; show (0 : Int) < _; omega)]
      exact pk_sub (by omega)
    · rw [if_neg (by rw [i32_lt, ii_sub (by omega) (by omega)]; show ¬ (0 : Int) < _; omega), show i - k = 0 by omega]
      rfl
  simp (disch := first | assumption | omega | decide | (simp only [List.length_cons, List.length_nil, Nat.reduceAdd, Nat.reduceLT]; done) | fail) only [r69_0, r69_1, r69_2, r69_3, r69_6, r69_10, hr19 hO, q69_7 c_max, e, oGF_is, WPo_some, List.getElem?_cons_succ, List.getElem?_cons_zero, kil_n, kil_i, kil_a, kil_u, kil_l, Option.toList_some, Option.toList_none, List.cons_append, List.nil_append, List.set_cons_succ, List.set_cons_zero, addm1, Nat.reduceAdd, List.length_cons, List.length_nil, Nat.reduceLT, not_true_eq_false, not_false_eq_true, if_true, if_false, or_self, and_self, true_and, and_true, or_true, true_or, false_or, or_false, false_and, and_false]
theorem c_last (hO : XO E ah A) {bd : Int32} {i : Nat} (hi' : i < n) (hn : n ≤ 20) (hk : k < n) : EV E (c + 1) 70 [.ref (A 19), .int (nI i)] (oh E ah A (eS A S fn (nI n) (nI k) bd lo hi vl oc wi sh dl OP)) (some (.int (nI (min i (n - k - 1))))) (oh E ah A (eS A S fn (nI n) (nI k) bd lo hi vl oc wi sh dl OP)) := by
  refine e70 ?_
  have k1 := fun ah => c_minN (E := E) (c := c) (ah := ah) (x := i) (y := n - k - 1) (by omega) (by omega)
  simp (disch := first | assumption | omega | decide | (simp only [List.length_cons, List.length_nil, Nat.reduceAdd, Nat.reduceLT]; done) | fail) only [r70_0, r70_1, r70_2, r70_5, r70_6, r70_9, r70_10, r70_11, r70_15, hr19 hO, q70_12 (k1 _), oGF_is, WPo_some, List.getElem?_cons_succ, List.getElem?_cons_zero, kil_n, kil_i, kil_a, kil_u, kil_l, Option.toList_some, Option.toList_none, List.cons_append, List.nil_append, List.set_cons_succ, List.set_cons_zero, addm1, Nat.reduceAdd, List.length_cons, List.length_nil, Nat.reduceLT, nI_clamp, nI_toInt, nI_leL, nI_Lle, nI_ltL, nI_Llt, nI_eqL, nI_Leq, nI_leE, nI_ltE, nI_eqE, nI_eqM, nI_add, nI_addL, nI_Ladd, nI_mulL, nI_Lmul, pk_mul, pk_sub, nI_subL, nI_Lsub, i2l_nI, Int.toNat_natCast, Nat.not_lt_zero, Nat.zero_le, ifT, ifF, not_true_eq_false, not_false_eq_true, if_true, if_false, or_self, and_self, true_and, and_true, or_true, true_or, false_or, or_false, false_and, and_false]
theorem c_keep (hO : XO E ah A) {mn od bd : Int32} {j : Nat} (hj : j < 2) {x y : Int32} : EV E c 67 [.ref (A 19), .int (nI j), .int x, .int y] (oh E ah A (eS A S fn mn od bd lo hi vl oc wi sh dl OP)) none (oh E ah A (eS A S fn mn od bd lo hi vl oc (upd wi j x) (upd sh j y) dl OP)) := by
  refine e67 ?_
  simp (disch := first | assumption | omega | decide | (simp only [List.length_cons, List.length_nil, Nat.reduceAdd, Nat.reduceLT]; done) | fail) only [r67_0, r67_1, r67_4, r67_5, r67_6, r67_7, r67_8, r67_11, r67_12, r67_13, r67_14, hr19 hO, hr44 hO, hr45 hO, sr44 hO, sr45 hO, pI, oGF_is, WPo_some, List.getElem?_cons_succ, List.getElem?_cons_zero, kil_n, kil_i, kil_a, kil_u, kil_l, Option.toList_some, Option.toList_none, List.cons_append, List.nil_append, List.set_cons_succ, List.set_cons_zero, addm1, Nat.reduceAdd, List.length_cons, List.length_nil, Nat.reduceLT, nI_clamp, nI_toInt, nI_leL, nI_Lle, nI_ltL, nI_Llt, nI_eqL, nI_Leq, nI_leE, nI_ltE, nI_eqE, nI_eqM, nI_add, nI_addL, nI_Ladd, nI_mulL, nI_Lmul, pk_mul, pk_sub, nI_subL, nI_Lsub, i2l_nI, Int.toNat_natCast, Nat.not_lt_zero, Nat.zero_le, ifT, ifF, not_true_eq_false, not_false_eq_true, if_true, if_false, or_self, and_self, true_and, and_true, or_true, true_or, false_or, or_false, false_and, and_false]
end EX3

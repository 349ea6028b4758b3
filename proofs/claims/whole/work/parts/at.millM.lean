/-! The model's mill: a card -/
noncomputable def mMs (v : Nat → Value) (al : Nat → Nat → Int64) (st : aMs) : Prop := al 58 = st.1 ∧ al 59 = st.2.1 ∧ v 62 = .int (nI st.2.2.1) ∧ v 61 = .int (bI st.2.2.2.1) ∧ v 63 = .int st.2.2.2.2.2
section MMC
variable {E : aEnv} {c m : Nat} {ah : aHp} {ma : Nat → Nat} {v : Nat → Value} {ai : Nat → Nat → Int32} {al : Nat → Nat → Int64} {cn : Nat} {C : aCd}
theorem m_isOver {x y : Int64} (hx : bw x) (hy : bw y) : EV E (c + 1) 254 [.long x, .long y] ah (some (.int (b2i (999999999999 < x.toInt.natAbs * y.toInt.natAbs)))) ah := by
  refine e254 ?_
  have hx' := hx
  have hy' := hy
  unfold bw at hx' hy'
  have ka := c_absL (E := E) (c := c) (ah := ah) (x := x) (by omega)
  have kb := c_absL (E := E) (c := c) (ah := ah) (x := y) (by omega)
  unfold b2i
  by_cases x0 : x = 0
  · have z : x.toInt.natAbs = 0 := by rw [x0]; rfl
    rw [z, if_neg (by omega)]
    simp (disch := first | assumption | omega | decide | (simp only [List.length_cons, List.length_nil, Nat.reduceAdd, Nat.reduceLT]; done) | fail) only [r254_0, r254_1, r254_2, r254_3, r254_6, r254_10, r254_13, r254_18, r254_19, r254_22, r254_23, r254_26, r254_27 (x := 0) (Or.inl rfl), r254_27 (x := 1) (Or.inr rfl), r254_27 (b2i_or _), lg_cmp_eq, eq_true x0, WPo_some, List.getElem?_cons_succ, List.getElem?_cons_zero, kil_n, kil_i, kil_a, kil_u, kil_l, Option.toList_some, Option.toList_none, List.cons_append, List.nil_append, List.set_cons_succ, List.set_cons_zero, addm1, Nat.reduceAdd, List.length_cons, List.length_nil, Nat.reduceLT, not_true_eq_false, not_false_eq_true, if_true, if_false, or_self, and_self, true_and, and_true, or_true, true_or, false_or, or_false, false_and, and_false]
  · have z : ¬ x.toInt.natAbs = 0 := fun w => x0 (Int64.toInt_inj.mp (by show x.toInt = 0; omega))
    have y0 : ¬ lN x.toInt.natAbs = 0 := fun w => by
      have := congrArg Int64.toInt w
      rw [lN_toInt63 (by omega)] at this
      have e : (0 : Int64).toInt = 0 := rfl
      omega
    have bl := big_le (s := x.toInt.natAbs) (y := y.toInt.natAbs) (by omega) hx' hy'
    by_cases ov : 999999999999 < x.toInt.natAbs * y.toInt.natAbs
    · have bl' : ¬ lN y.toInt.natAbs ≤ 999999999999 / lN x.toInt.natAbs := by rw [bl]; exact not_not_intro ov
      rw [if_pos ov]
      simp (disch := first | assumption | omega | decide | (simp only [List.length_cons, List.length_nil, Nat.reduceAdd, Nat.reduceLT]; done) | fail) only [r254_0, r254_1, r254_2, r254_3, r254_6, r254_10, r254_13, r254_18, r254_19, r254_22, r254_23, r254_26, r254_27 (x := 0) (Or.inl rfl), r254_27 (x := 1) (Or.inr rfl), r254_27 (b2i_or _), r254_17 y0, lg_cmp_eq, lg_cmp_le, x0, bl', q254_7 kb, q254_14 ka, WPo_some, List.getElem?_cons_succ, List.getElem?_cons_zero, kil_n, kil_i, kil_a, kil_u, kil_l, Option.toList_some, Option.toList_none, List.cons_append, List.nil_append, List.set_cons_succ, List.set_cons_zero, addm1, Nat.reduceAdd, List.length_cons, List.length_nil, Nat.reduceLT, not_true_eq_false, not_false_eq_true, if_true, if_false, or_self, and_self, true_and, and_true, or_true, true_or, false_or, or_false, false_and, and_false]
    · have bl' : lN y.toInt.natAbs ≤ 999999999999 / lN x.toInt.natAbs := by rw [bl]; exact ov
      rw [if_neg ov]
      simp (disch := first | assumption | omega | decide | (simp only [List.length_cons, List.length_nil, Nat.reduceAdd, Nat.reduceLT]; done) | fail) only [r254_0, r254_1, r254_2, r254_3, r254_6, r254_10, r254_13, r254_18, r254_19, r254_22, r254_23, r254_26, r254_27 (x := 0) (Or.inl rfl), r254_27 (x := 1) (Or.inr rfl), r254_27 (b2i_or _), r254_17 y0, lg_cmp_eq, lg_cmp_le, x0, bl', q254_7 kb, q254_14 ka, WPo_some, List.getElem?_cons_succ, List.getElem?_cons_zero, kil_n, kil_i, kil_a, kil_u, kil_l, Option.toList_some, Option.toList_none, List.cons_append, List.nil_append, List.set_cons_succ, List.set_cons_zero, addm1, Nat.reduceAdd, List.length_cons, List.length_nil, Nat.reduceLT, not_true_eq_false, not_false_eq_true, if_true, if_false, or_self, and_self, true_and, and_true, or_true, true_or, false_or, or_false, false_and, and_false]
theorem big_n {r : Int64} (h : r.toInt.natAbs < 2 ^ 62) : (lN r.toInt.natAbs ≤ 999999999999) = ¬ (999999999999 < r.toInt.natAbs) := by
  rw [show (999999999999 : Int64) = lN 999999999999 from rfl, lN_le63 (by omega) (by omega)]
  apply propext
  omega
theorem m_alarms (h : MO E ah m ma) (hc : cn ≤ 40) {st : aMs} (hst : okM st cn) (hat : st.2.2.2.2.1 < cn) (hJ : mkJ ai al st.2.2.2.2.1 C) (hC : cdOK C) (hB : bB (ai 45)) (hM : mMs v al st) : EV E (c + 2) 255 [.ref m, .int (nI st.2.2.2.2.1)] (mh E ah m ma v ai al) (some (.int (nI (alm C st.1 st.2.2.1)))) (mh E ah m ma v ai al) := by
  refine e255 ?_
  obtain ⟨P, R, pn, up, at', cr⟩ := st
  dsimp only at *
  obtain ⟨s1, s2, s3⟩ := hst
  obtain ⟨m1, m2, m3, m4, m5⟩ := hM
  dsimp only at *
  obtain ⟨d1, d2, d3, d4, d5, d6, d7, d8⟩ := hJ
  obtain ⟨o1, o2, o3, o4, -⟩ := hC
  have rg : ∀ i, i < 20 → -999999999999 ≤ (P i).toInt ∧ (P i).toInt ≤ 999999999999 := fun i hi => bw_rg (s1 i hi)
  by_cases h5 : C.1 ≤ 5
  · have o4' := o4 h5
    have a19 := o4' 0
    have a1 := o4' 1
    have pl1 : 0 < plc C.1 := by
      unfold plc
      repeat' split
      all_goals omega
    have n0 := d3 pl1
    have e6 : ¬ ai 43 at' = 6 := by rw [d1, show (6 : Int32) = nI 6 from rfl, nI_eqE (by omega) (by decide)]; omega
    have e7 : ¬ ai 43 at' = 7 := by rw [d1, show (7 : Int32) = nI 7 from rfl, nI_eqE (by omega) (by decide)]; omega
    obtain ⟨y', hy', eB⟩ := hB at'
    rcases (show C.1 = 0 ∨ C.1 = 1 ∨ C.1 = 2 ∨ C.1 = 3 ∨ C.1 = 4 ∨ C.1 = 5 by omega) with k | k | k | k | k | k
    · have ea : alm C P pn = 0 := by unfold alm; simp [k]
      rw [k, show nI 0 = (0 : Int32) from rfl] at d1
      rw [ea]
      simp (disch := first | assumption | omega | decide | (simp only [List.length_cons, List.length_nil, Nat.reduceAdd, Nat.reduceLT]; done) | fail) only [r255_0, r255_1, r255_4, r255_5, r255_6, r255_8, r255_11, r255_12, r255_15, r255_16, r255_17, r255_19, r255_22, r255_23, r255_24, r255_25, r255_28, r255_29, r255_32, r255_33, r255_34, r255_35, r255_36, r255_37, r255_40, r255_41, r255_44, r255_45, r255_46, r255_47, r255_49, r255_50, r255_55_d (x := 0) (show (0 : Int32).toInt < 1 ∨ 5 < (0 : Int32).toInt by decide), r255_53, r255_54, r255_171, r255_172, mh_o h, gm_43, gm_44, gm_45, gm_58, gI, gL, hm_43 h, hm_44 h, hm_45 h, hm_58 h, d1, n0, eB, WPo_some, List.getElem?_cons_succ, List.getElem?_cons_zero, kil_n, kil_i, kil_a, kil_u, kil_l, Option.toList_some, Option.toList_none, List.cons_append, List.nil_append, List.set_cons_succ, List.set_cons_zero, addm1, Nat.reduceAdd, List.length_cons, List.length_nil, Nat.reduceLT, nI_clamp, nI_toInt, nI_leL, nI_Lle, nI_ltL, nI_Llt, nI_eqL, nI_Leq, nI_leE, nI_ltE, nI_eqE, nI_eqM, nI_add, nI_addL, nI_Ladd, nI_mulL, nI_Lmul, pk_mul, pk_sub, nI_subL, nI_Lsub, i2l_nI, Int.toNat_natCast, Nat.not_lt_zero, Nat.zero_le, ifT, ifF, not_true_eq_false, not_false_eq_true, if_true, if_false, or_self, and_self, true_and, and_true, or_true, true_or, false_or, or_false, false_and, and_false, show ¬ (0 : Int32) = 6 by decide, show ¬ (0 : Int32) = 7 by decide]
      exact rfl
    · have b1 := d4 (by rw [k]; decide)
      have r0 := rg (C.2.2.1 0) (by omega)
      have r1 := rg (C.2.2.1 1) (by omega)
      have ea : alm C P pn = if 999999999999 < (P (C.2.2.1 0) + P (C.2.2.1 1)).toInt.natAbs then 1 else 0 := if_pos k
      have es := bw_add (s1 (C.2.2.1 0) (by omega)) (s1 (C.2.2.1 1) (by omega))
      have ka := c_absL (E := E) (c := c + 1) (ah := mh E ah m ma v ai al) (x := P (C.2.2.1 0) + P (C.2.2.1 1)) (by omega)
      have bn := big_n (r := P (C.2.2.1 0) + P (C.2.2.1 1)) (by omega)
      rw [k, show nI 1 = (1 : Int32) from rfl] at d1
      rw [ea]
      by_cases w : 999999999999 < (P (C.2.2.1 0) + P (C.2.2.1 1)).toInt.natAbs
      · have bn' : ¬ lN (P (C.2.2.1 0) + P (C.2.2.1 1)).toInt.natAbs ≤ 999999999999 := by rw [bn]; exact not_not_intro w
        rw [if_pos w]
        simp (disch := first | assumption | omega | decide | (simp only [List.length_cons, List.length_nil, Nat.reduceAdd, Nat.reduceLT]; done) | fail) only [r255_0, r255_1, r255_4, r255_5, r255_6, r255_8, r255_11, r255_12, r255_15, r255_16, r255_17, r255_19, r255_22, r255_23, r255_24, r255_25, r255_28, r255_29, r255_32, r255_33, r255_34, r255_35, r255_36, r255_37, r255_40, r255_41, r255_44, r255_45, r255_46, r255_47, r255_49, r255_50, r255_53, r255_54, r255_55_1, r255_88, r255_89, r255_91, r255_95, r255_98, r255_99, r255_102, r255_103, r255_106, r255_107, mh_o h, gm_43, gm_44, gm_45, gm_58, gI, gL, hm_43 h, hm_44 h, hm_45 h, hm_58 h, m1, d1, n0, b1, q255_92 ka, lg_cmp_le, bn', WPo_some, List.getElem?_cons_succ, List.getElem?_cons_zero, kil_n, kil_i, kil_a, kil_u, kil_l, Option.toList_some, Option.toList_none, List.cons_append, List.nil_append, List.set_cons_succ, List.set_cons_zero, addm1, Nat.reduceAdd, List.length_cons, List.length_nil, Nat.reduceLT, nI_clamp, nI_toInt, nI_leL, nI_Lle, nI_ltL, nI_Llt, nI_eqL, nI_Leq, nI_leE, nI_ltE, nI_eqE, nI_eqM, nI_add, nI_addL, nI_Ladd, nI_mulL, nI_Lmul, pk_mul, pk_sub, nI_subL, nI_Lsub, i2l_nI, Int.toNat_natCast, Nat.not_lt_zero, Nat.zero_le, ifT, ifF, not_true_eq_false, not_false_eq_true, if_true, if_false, or_self, and_self, true_and, and_true, or_true, true_or, false_or, or_false, false_and, and_false, show ¬ (1 : Int32) = 6 by decide, show ¬ (1 : Int32) = 7 by decide]
        exact rfl
      · have bn' : lN (P (C.2.2.1 0) + P (C.2.2.1 1)).toInt.natAbs ≤ 999999999999 := by rw [bn]; exact w
        rw [if_neg w]
        simp (disch := first | assumption | omega | decide | (simp only [List.length_cons, List.length_nil, Nat.reduceAdd, Nat.reduceLT]; done) | fail) only [r255_0, r255_1, r255_4, r255_5, r255_6, r255_8, r255_11, r255_12, r255_15, r255_16, r255_17, r255_19, r255_22, r255_23, r255_24, r255_25, r255_28, r255_29, r255_32, r255_33, r255_34, r255_35, r255_36, r255_37, r255_40, r255_41, r255_44, r255_45, r255_46, r255_47, r255_49, r255_50, r255_53, r255_54, r255_55_1, r255_88, r255_89, r255_91, r255_95, r255_98, r255_99, r255_102, r255_103, r255_106, r255_107, mh_o h, gm_43, gm_44, gm_45, gm_58, gI, gL, hm_43 h, hm_44 h, hm_45 h, hm_58 h, m1, d1, n0, b1, q255_92 ka, lg_cmp_le, bn', WPo_some, List.getElem?_cons_succ, List.getElem?_cons_zero, kil_n, kil_i, kil_a, kil_u, kil_l, Option.toList_some, Option.toList_none, List.cons_append, List.nil_append, List.set_cons_succ, List.set_cons_zero, addm1, Nat.reduceAdd, List.length_cons, List.length_nil, Nat.reduceLT, nI_clamp, nI_toInt, nI_leL, nI_Lle, nI_ltL, nI_Llt, nI_eqL, nI_Leq, nI_leE, nI_ltE, nI_eqE, nI_eqM, nI_add, nI_addL, nI_Ladd, nI_mulL, nI_Lmul, pk_mul, pk_sub, nI_subL, nI_Lsub, i2l_nI, Int.toNat_natCast, Nat.not_lt_zero, Nat.zero_le, ifT, ifF, not_true_eq_false, not_false_eq_true, if_true, if_false, or_self, and_self, true_and, and_true, or_true, true_or, false_or, or_false, false_and, and_false, show ¬ (1 : Int32) = 6 by decide, show ¬ (1 : Int32) = 7 by decide]
        exact rfl
    · have b1 := d4 (by rw [k]; decide)
      have r0 := rg (C.2.2.1 0) (by omega)
      have r1 := rg (C.2.2.1 1) (by omega)
      have ea : alm C P pn = if 999999999999 < (P (C.2.2.1 0) - P (C.2.2.1 1)).toInt.natAbs then 1 else 0 := by unfold alm; rw [if_neg (by omega), if_pos k]
      have es := bw_sub (s1 (C.2.2.1 0) (by omega)) (s1 (C.2.2.1 1) (by omega))
      have ka := c_absL (E := E) (c := c + 1) (ah := mh E ah m ma v ai al) (x := P (C.2.2.1 0) - P (C.2.2.1 1)) (by omega)
      have bn := big_n (r := P (C.2.2.1 0) - P (C.2.2.1 1)) (by omega)
      rw [k, show nI 2 = (2 : Int32) from rfl] at d1
      rw [ea]
      by_cases w : 999999999999 < (P (C.2.2.1 0) - P (C.2.2.1 1)).toInt.natAbs
      · have bn' : ¬ lN (P (C.2.2.1 0) - P (C.2.2.1 1)).toInt.natAbs ≤ 999999999999 := by rw [bn]; exact not_not_intro w
        rw [if_pos w]
        simp (disch := first | assumption | omega | decide | (simp only [List.length_cons, List.length_nil, Nat.reduceAdd, Nat.reduceLT]; done) | fail) only [r255_0, r255_1, r255_4, r255_5, r255_6, r255_8, r255_11, r255_12, r255_15, r255_16, r255_17, r255_19, r255_22, r255_23, r255_24, r255_25, r255_28, r255_29, r255_32, r255_33, r255_34, r255_35, r255_36, r255_37, r255_40, r255_41, r255_44, r255_45, r255_46, r255_47, r255_49, r255_50, r255_53, r255_54, r255_55_2, r255_108, r255_109, r255_111, r255_115, r255_118, r255_119, r255_122, r255_123, r255_126, r255_127, mh_o h, gm_43, gm_44, gm_45, gm_58, gI, gL, hm_43 h, hm_44 h, hm_45 h, hm_58 h, m1, d1, n0, b1, q255_112 ka, lg_cmp_le, bn', WPo_some, List.getElem?_cons_succ, List.getElem?_cons_zero, kil_n, kil_i, kil_a, kil_u, kil_l, Option.toList_some, Option.toList_none, List.cons_append, List.nil_append, List.set_cons_succ, List.set_cons_zero, addm1, Nat.reduceAdd, List.length_cons, List.length_nil, Nat.reduceLT, nI_clamp, nI_toInt, nI_leL, nI_Lle, nI_ltL, nI_Llt, nI_eqL, nI_Leq, nI_leE, nI_ltE, nI_eqE, nI_eqM, nI_add, nI_addL, nI_Ladd, nI_mulL, nI_Lmul, pk_mul, pk_sub, nI_subL, nI_Lsub, i2l_nI, Int.toNat_natCast, Nat.not_lt_zero, Nat.zero_le, ifT, ifF, not_true_eq_false, not_false_eq_true, if_true, if_false, or_self, and_self, true_and, and_true, or_true, true_or, false_or, or_false, false_and, and_false, show ¬ (2 : Int32) = 6 by decide, show ¬ (2 : Int32) = 7 by decide]
        exact rfl
      · have bn' : lN (P (C.2.2.1 0) - P (C.2.2.1 1)).toInt.natAbs ≤ 999999999999 := by rw [bn]; exact w
        rw [if_neg w]
        simp (disch := first | assumption | omega | decide | (simp only [List.length_cons, List.length_nil, Nat.reduceAdd, Nat.reduceLT]; done) | fail) only [r255_0, r255_1, r255_4, r255_5, r255_6, r255_8, r255_11, r255_12, r255_15, r255_16, r255_17, r255_19, r255_22, r255_23, r255_24, r255_25, r255_28, r255_29, r255_32, r255_33, r255_34, r255_35, r255_36, r255_37, r255_40, r255_41, r255_44, r255_45, r255_46, r255_47, r255_49, r255_50, r255_53, r255_54, r255_55_2, r255_108, r255_109, r255_111, r255_115, r255_118, r255_119, r255_122, r255_123, r255_126, r255_127, mh_o h, gm_43, gm_44, gm_45, gm_58, gI, gL, hm_43 h, hm_44 h, hm_45 h, hm_58 h, m1, d1, n0, b1, q255_112 ka, lg_cmp_le, bn', WPo_some, List.getElem?_cons_succ, List.getElem?_cons_zero, kil_n, kil_i, kil_a, kil_u, kil_l, Option.toList_some, Option.toList_none, List.cons_append, List.nil_append, List.set_cons_succ, List.set_cons_zero, addm1, Nat.reduceAdd, List.length_cons, List.length_nil, Nat.reduceLT, nI_clamp, nI_toInt, nI_leL, nI_Lle, nI_ltL, nI_Llt, nI_eqL, nI_Leq, nI_leE, nI_ltE, nI_eqE, nI_eqM, nI_add, nI_addL, nI_Ladd, nI_mulL, nI_Lmul, pk_mul, pk_sub, nI_subL, nI_Lsub, i2l_nI, Int.toNat_natCast, Nat.not_lt_zero, Nat.zero_le, ifT, ifF, not_true_eq_false, not_false_eq_true, if_true, if_false, or_self, and_self, true_and, and_true, or_true, true_or, false_or, or_false, false_and, and_false, show ¬ (2 : Int32) = 6 by decide, show ¬ (2 : Int32) = 7 by decide]
        exact rfl
    · have b1 := d4 (by rw [k]; decide)
      have ea : alm C P pn = if 999999999999 < (P (C.2.2.1 0)).toInt.natAbs * (P (C.2.2.1 1)).toInt.natAbs then 1 else 0 := by unfold alm; rw [if_neg (by omega), if_neg (by omega), if_pos k]
      have ko := m_isOver (E := E) (c := c) (ah := mh E ah m ma v ai al) (s1 (C.2.2.1 0) (by omega)) (s1 (C.2.2.1 1) (by omega))
      rw [k, show nI 3 = (3 : Int32) from rfl] at d1
      rw [ea]
      by_cases w : 999999999999 < (P (C.2.2.1 0)).toInt.natAbs * (P (C.2.2.1 1)).toInt.natAbs
      · rw [if_pos w]
        simp (disch := first | assumption | omega | decide | (simp only [List.length_cons, List.length_nil, Nat.reduceAdd, Nat.reduceLT]; done) | fail) only [r255_0, r255_1, r255_4, r255_5, r255_6, r255_8, r255_11, r255_12, r255_15, r255_16, r255_17, r255_19, r255_22, r255_23, r255_24, r255_25, r255_28, r255_29, r255_32, r255_33, r255_34, r255_35, r255_36, r255_37, r255_40, r255_41, r255_44, r255_45, r255_46, r255_47, r255_49, r255_50, r255_53, r255_54, r255_55_3, r255_128, r255_129, r255_134, r255_137, r255_138, r255_141, r255_142, mh_o h, gm_43, gm_44, gm_45, gm_58, gI, gL, hm_43 h, hm_44 h, hm_45 h, hm_58 h, m1, d1, n0, b1, q255_131 ko, b2i_eq0, w, WPo_some, List.getElem?_cons_succ, List.getElem?_cons_zero, kil_n, kil_i, kil_a, kil_u, kil_l, Option.toList_some, Option.toList_none, List.cons_append, List.nil_append, List.set_cons_succ, List.set_cons_zero, addm1, Nat.reduceAdd, List.length_cons, List.length_nil, Nat.reduceLT, nI_clamp, nI_toInt, nI_leL, nI_Lle, nI_ltL, nI_Llt, nI_eqL, nI_Leq, nI_leE, nI_ltE, nI_eqE, nI_eqM, nI_add, nI_addL, nI_Ladd, nI_mulL, nI_Lmul, pk_mul, pk_sub, nI_subL, nI_Lsub, i2l_nI, Int.toNat_natCast, Nat.not_lt_zero, Nat.zero_le, ifT, ifF, not_true_eq_false, not_false_eq_true, if_true, if_false, or_self, and_self, true_and, and_true, or_true, true_or, false_or, or_false, false_and, and_false, show ¬ (3 : Int32) = 6 by decide, show ¬ (3 : Int32) = 7 by decide]
        exact rfl
      · rw [if_neg w]
        simp (disch := first | assumption | omega | decide | (simp only [List.length_cons, List.length_nil, Nat.reduceAdd, Nat.reduceLT]; done) | fail) only [r255_0, r255_1, r255_4, r255_5, r255_6, r255_8, r255_11, r255_12, r255_15, r255_16, r255_17, r255_19, r255_22, r255_23, r255_24, r255_25, r255_28, r255_29, r255_32, r255_33, r255_34, r255_35, r255_36, r255_37, r255_40, r255_41, r255_44, r255_45, r255_46, r255_47, r255_49, r255_50, r255_53, r255_54, r255_55_3, r255_128, r255_129, r255_134, r255_137, r255_138, r255_141, r255_142, mh_o h, gm_43, gm_44, gm_45, gm_58, gI, gL, hm_43 h, hm_44 h, hm_45 h, hm_58 h, m1, d1, n0, b1, q255_131 ko, b2i_eq0, w, WPo_some, List.getElem?_cons_succ, List.getElem?_cons_zero, kil_n, kil_i, kil_a, kil_u, kil_l, Option.toList_some, Option.toList_none, List.cons_append, List.nil_append, List.set_cons_succ, List.set_cons_zero, addm1, Nat.reduceAdd, List.length_cons, List.length_nil, Nat.reduceLT, nI_clamp, nI_toInt, nI_leL, nI_Lle, nI_ltL, nI_Llt, nI_eqL, nI_Leq, nI_leE, nI_ltE, nI_eqE, nI_eqM, nI_add, nI_addL, nI_Ladd, nI_mulL, nI_Lmul, pk_mul, pk_sub, nI_subL, nI_Lsub, i2l_nI, Int.toNat_natCast, Nat.not_lt_zero, Nat.zero_le, ifT, ifF, not_true_eq_false, not_false_eq_true, if_true, if_false, or_self, and_self, true_and, and_true, or_true, true_or, false_or, or_false, false_and, and_false, show ¬ (3 : Int32) = 6 by decide, show ¬ (3 : Int32) = 7 by decide]
        exact rfl
    · have b1 := d4 (by rw [k]; decide)
      have ea : alm C P pn = if P (C.2.2.1 1) = 0 then 2 else 0 := by unfold alm; rw [if_neg (by omega), if_neg (by omega), if_neg (by omega), if_pos k]
      rw [k, show nI 4 = (4 : Int32) from rfl] at d1
      rw [ea]
      by_cases w : P (C.2.2.1 1) = 0
      · rw [if_pos w]
        simp (disch := first | assumption | omega | decide | (simp only [List.length_cons, List.length_nil, Nat.reduceAdd, Nat.reduceLT]; done) | fail) only [r255_0, r255_1, r255_4, r255_5, r255_6, r255_8, r255_11, r255_12, r255_15, r255_16, r255_17, r255_19, r255_22, r255_23, r255_24, r255_25, r255_28, r255_29, r255_32, r255_33, r255_34, r255_35, r255_36, r255_37, r255_40, r255_41, r255_44, r255_45, r255_46, r255_47, r255_49, r255_50, r255_53, r255_54, r255_55_4, r255_143, r255_145, r255_146, r255_147, r255_150, r255_151, r255_154, r255_155, mh_o h, gm_43, gm_44, gm_45, gm_58, gI, gL, hm_43 h, hm_44 h, hm_45 h, hm_58 h, m1, d1, n0, b1, lg_cmp_eq, eq_true w, WPo_some, List.getElem?_cons_succ, List.getElem?_cons_zero, kil_n, kil_i, kil_a, kil_u, kil_l, Option.toList_some, Option.toList_none, List.cons_append, List.nil_append, List.set_cons_succ, List.set_cons_zero, addm1, Nat.reduceAdd, List.length_cons, List.length_nil, Nat.reduceLT, nI_clamp, nI_toInt, nI_leL, nI_Lle, nI_ltL, nI_Llt, nI_eqL, nI_Leq, nI_leE, nI_ltE, nI_eqE, nI_eqM, nI_add, nI_addL, nI_Ladd, nI_mulL, nI_Lmul, pk_mul, pk_sub, nI_subL, nI_Lsub, i2l_nI, Int.toNat_natCast, Nat.not_lt_zero, Nat.zero_le, ifT, ifF, not_true_eq_false, not_false_eq_true, if_true, if_false, or_self, and_self, true_and, and_true, or_true, true_or, false_or, or_false, false_and, and_false, show ¬ (4 : Int32) = 6 by decide, show ¬ (4 : Int32) = 7 by decide]
        exact rfl
      · rw [if_neg w]
        simp (disch := first | assumption | omega | decide | (simp only [List.length_cons, List.length_nil, Nat.reduceAdd, Nat.reduceLT]; done) | fail) only [r255_0, r255_1, r255_4, r255_5, r255_6, r255_8, r255_11, r255_12, r255_15, r255_16, r255_17, r255_19, r255_22, r255_23, r255_24, r255_25, r255_28, r255_29, r255_32, r255_33, r255_34, r255_35, r255_36, r255_37, r255_40, r255_41, r255_44, r255_45, r255_46, r255_47, r255_49, r255_50, r255_53, r255_54, r255_55_4, r255_143, r255_145, r255_146, r255_147, r255_150, r255_151, r255_154, r255_155, mh_o h, gm_43, gm_44, gm_45, gm_58, gI, gL, hm_43 h, hm_44 h, hm_45 h, hm_58 h, m1, d1, n0, b1, lg_cmp_eq, w, WPo_some, List.getElem?_cons_succ, List.getElem?_cons_zero, kil_n, kil_i, kil_a, kil_u, kil_l, Option.toList_some, Option.toList_none, List.cons_append, List.nil_append, List.set_cons_succ, List.set_cons_zero, addm1, Nat.reduceAdd, List.length_cons, List.length_nil, Nat.reduceLT, nI_clamp, nI_toInt, nI_leL, nI_Lle, nI_ltL, nI_Llt, nI_eqL, nI_Leq, nI_leE, nI_ltE, nI_eqE, nI_eqM, nI_add, nI_addL, nI_Ladd, nI_mulL, nI_Lmul, pk_mul, pk_sub, nI_subL, nI_Lsub, i2l_nI, Int.toNat_natCast, Nat.not_lt_zero, Nat.zero_le, ifT, ifF, not_true_eq_false, not_false_eq_true, if_true, if_false, or_self, and_self, true_and, and_true, or_true, true_or, false_or, or_false, false_and, and_false, show ¬ (4 : Int32) = 6 by decide, show ¬ (4 : Int32) = 7 by decide]
        exact rfl
    · have ea : alm C P pn = if pn = 40 then 3 else 0 := by unfold alm; rw [if_neg (by omega), if_neg (by omega), if_neg (by omega), if_neg (by omega), if_pos k]
      rw [k, show nI 5 = (5 : Int32) from rfl] at d1
      rw [ea]
      by_cases w : pn = 40
      · rw [if_pos w]
        simp (disch := first | assumption | omega | decide | (simp only [List.length_cons, List.length_nil, Nat.reduceAdd, Nat.reduceLT]; done) | fail) only [r255_0, r255_1, r255_4, r255_5, r255_6, r255_8, r255_11, r255_12, r255_15, r255_16, r255_17, r255_19, r255_22, r255_23, r255_24, r255_25, r255_28, r255_29, r255_32, r255_33, r255_34, r255_35, r255_36, r255_37, r255_40, r255_41, r255_44, r255_45, r255_46, r255_47, r255_49, r255_50, r255_53, r255_54, r255_55_5, r255_156, r255_157, r255_160, r255_162, r255_165, r255_166, r255_169, r255_170, mh_o h, gm_43, gm_44, gm_45, gm_58, gm_62, gI, gL, hm_43 h, hm_44 h, hm_45 h, hm_58 h, m1, m3, d1, n0, eB, eq_true w, WPo_some, List.getElem?_cons_succ, List.getElem?_cons_zero, kil_n, kil_i, kil_a, kil_u, kil_l, Option.toList_some, Option.toList_none, List.cons_append, List.nil_append, List.set_cons_succ, List.set_cons_zero, addm1, Nat.reduceAdd, List.length_cons, List.length_nil, Nat.reduceLT, nI_clamp, nI_toInt, nI_leL, nI_Lle, nI_ltL, nI_Llt, nI_eqL, nI_Leq, nI_leE, nI_ltE, nI_eqE, nI_eqM, nI_add, nI_addL, nI_Ladd, nI_mulL, nI_Lmul, pk_mul, pk_sub, nI_subL, nI_Lsub, i2l_nI, Int.toNat_natCast, Nat.not_lt_zero, Nat.zero_le, ifT, ifF, not_true_eq_false, not_false_eq_true, if_true, if_false, or_self, and_self, true_and, and_true, or_true, true_or, false_or, or_false, false_and, and_false, show ¬ (5 : Int32) = 6 by decide, show ¬ (5 : Int32) = 7 by decide]
        exact rfl
      · rw [if_neg w]
        simp (disch := first | assumption | omega | decide | (simp only [List.length_cons, List.length_nil, Nat.reduceAdd, Nat.reduceLT]; done) | fail) only [r255_0, r255_1, r255_4, r255_5, r255_6, r255_8, r255_11, r255_12, r255_15, r255_16, r255_17, r255_19, r255_22, r255_23, r255_24, r255_25, r255_28, r255_29, r255_32, r255_33, r255_34, r255_35, r255_36, r255_37, r255_40, r255_41, r255_44, r255_45, r255_46, r255_47, r255_49, r255_50, r255_53, r255_54, r255_55_5, r255_156, r255_157, r255_160, r255_162, r255_165, r255_166, r255_169, r255_170, mh_o h, gm_43, gm_44, gm_45, gm_58, gm_62, gI, gL, hm_43 h, hm_44 h, hm_45 h, hm_58 h, m1, m3, d1, n0, eB, w, WPo_some, List.getElem?_cons_succ, List.getElem?_cons_zero, kil_n, kil_i, kil_a, kil_u, kil_l, Option.toList_some, Option.toList_none, List.cons_append, List.nil_append, List.set_cons_succ, List.set_cons_zero, addm1, Nat.reduceAdd, List.length_cons, List.length_nil, Nat.reduceLT, nI_clamp, nI_toInt, nI_leL, nI_Lle, nI_ltL, nI_Llt, nI_eqL, nI_Leq, nI_leE, nI_ltE, nI_eqE, nI_eqM, nI_add, nI_addL, nI_Ladd, nI_mulL, nI_Lmul, pk_mul, pk_sub, nI_subL, nI_Lsub, i2l_nI, Int.toNat_natCast, Nat.not_lt_zero, Nat.zero_le, ifT, ifF, not_true_eq_false, not_false_eq_true, if_true, if_false, or_self, and_self, true_and, and_true, or_true, true_or, false_or, or_false, false_and, and_false, show ¬ (5 : Int32) = 6 by decide, show ¬ (5 : Int32) = 7 by decide]
        exact rfl
  · have ea : alm C P pn = 0 := by unfold alm; rw [if_neg (by omega), if_neg (by omega), if_neg (by omega), if_neg (by omega), if_neg (by omega)]
    rw [ea]
    by_cases k6 : C.1 = 6
    · rw [k6, show nI 6 = (6 : Int32) from rfl] at d1
      simp (disch := first | assumption | omega | decide | (simp only [List.length_cons, List.length_nil, Nat.reduceAdd, Nat.reduceLT]; done) | fail) only [r255_0, r255_1, r255_4, r255_5, r255_6, r255_8, r255_11, r255_12, r255_15, r255_16, r255_17, r255_19, r255_22, r255_23, mh_o h, gm_43, gI, hm_43 h, d1, WPo_some, List.getElem?_cons_succ, List.getElem?_cons_zero, kil_n, kil_i, kil_a, kil_u, kil_l, Option.toList_some, Option.toList_none, List.cons_append, List.nil_append, List.set_cons_succ, List.set_cons_zero, addm1, Nat.reduceAdd, List.length_cons, List.length_nil, Nat.reduceLT, nI_clamp, nI_toInt, nI_leL, nI_Lle, nI_ltL, nI_Llt, nI_eqL, nI_Leq, nI_leE, nI_ltE, nI_eqE, nI_eqM, nI_add, nI_addL, nI_Ladd, nI_mulL, nI_Lmul, pk_mul, pk_sub, nI_subL, nI_Lsub, i2l_nI, Int.toNat_natCast, Nat.not_lt_zero, Nat.zero_le, ifT, ifF, not_true_eq_false, not_false_eq_true, if_true, if_false, or_self, and_self, true_and, and_true, or_true, true_or, false_or, or_false, false_and, and_false]
      exact rfl
    · have k7 : C.1 = 7 := by omega
      rw [k7, show nI 7 = (7 : Int32) from rfl] at d1
      simp (disch := first | assumption | omega | decide | (simp only [List.length_cons, List.length_nil, Nat.reduceAdd, Nat.reduceLT]; done) | fail) only [r255_0, r255_1, r255_4, r255_5, r255_6, r255_8, r255_11, r255_12, r255_15, r255_16, r255_17, r255_19, r255_22, r255_23, mh_o h, gm_43, gI, hm_43 h, d1, WPo_some, List.getElem?_cons_succ, List.getElem?_cons_zero, kil_n, kil_i, kil_a, kil_u, kil_l, Option.toList_some, Option.toList_none, List.cons_append, List.nil_append, List.set_cons_succ, List.set_cons_zero, addm1, Nat.reduceAdd, List.length_cons, List.length_nil, Nat.reduceLT, nI_clamp, nI_toInt, nI_leL, nI_Lle, nI_ltL, nI_Llt, nI_eqL, nI_Leq, nI_leE, nI_ltE, nI_eqE, nI_eqM, nI_add, nI_addL, nI_Ladd, nI_mulL, nI_Lmul, pk_mul, pk_sub, nI_subL, nI_Lsub, i2l_nI, Int.toNat_natCast, Nat.not_lt_zero, Nat.zero_le, ifT, ifF, not_true_eq_false, not_false_eq_true, if_true, if_false, or_self, and_self, true_and, and_true, or_true, true_or, false_or, or_false, false_and, and_false, show ¬ (7 : Int32) = 6 by decide]
      exact rfl
end MMC

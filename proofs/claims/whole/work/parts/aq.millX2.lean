/-! The class' mill: cards, runs -/
section MLD
variable {E : aEnv} {c : Nat} {ah : aHp} {A : Nat → Nat} {S : Nat → aE} {b cn : Nat} {kd wn nm ls : Nat → Int32} {wl : Nat → Int64} {P R : Nat → Int64} {pn : Nat} {up : Bool} {at' : Nat} {cr : Int32} {al : Nat} {ac : Int32} {dn : Nat} {C : aCd}
theorem c_leadM (hO : XO E ah A) (hb : 61 ≤ b ∧ b ≤ 67) (hH : dkH A S b kd wn nm ls wl cn) (hc : cn ≤ 40) (hat : at' < cn) (hI : dkI kd wn nm ls wl at' C) (hC : cdOK C) (hk : C.1 = 6 ∨ C.1 = 7) (hl : ldX C at' cn = false) : EV E (c + 3) 109 [.ref (A 16), .ref (A b)] (oh E ah A (mst A S (P, R, pn, up, at', cr) al ac dn)) none (oh E ah A (mst A S (ldS C (P, R, pn, up, at', cr)) al ac dn)) := by
  refine e109 ?_
  obtain ⟨d1, d2, d3, d4, d5⟩ := hI
  obtain ⟨o1, o2, o3, -⟩ := hC
  have o30 := o3 0
  unfold ldX at hl
  rw [Bool.or_eq_false_iff, decide_eq_false_iff_not, decide_eq_false_iff_not] at hl
  have hH1 := fun (st : aMs) => dkH_ml (al := al) (ac := ac) (dn := dn) hb (st := st) hH
  have ci := fun (st : aMs) => dkH_ci hO hb (hH1 st)
  have kw := c_whenOf (E := E) (c := c + 1) hO hb (hH1 (P, R, pn, up, at', cr)) hc hat
  rw [d2] at kw
  have kk := c_kindOf (E := E) (c := c + 1) hO hb (hH1 (P, R, pn, up, at', cr)) hc hat
  rw [d1] at kk
  unfold ldS
  dsimp only
  by_cases hh : (C.2.1 = 1 ∧ up = false) ∨ (C.2.1 = 2 ∧ up = true)
  · rw [if_pos hh]
    rcases hh with ⟨h1, h2⟩ | ⟨h1, h2⟩
    · subst h2
      simp (disch := first | assumption | omega | decide | (simp only [List.length_cons, List.length_nil, Nat.reduceAdd, Nat.reduceLT]; done) | fail) only [r109_0, r109_0n, r109_1, r109_2, r109_8, r109_9, r109_10, r109_11, r109_14, r109_15, r109_18, r109_21, r109_22, r109_23, r109_26, r109_27, r109_30, r109_33, r109_34, r109_37, r109_38, r109_39, r109_40, r109_43, r109_44, r109_44i, r109_45, r109_48, r109_49, r109_50, r109_53, r109_54, r109_54n, r109_55, r109_56, r109_62, r109_64, r109_67, r109_68, r109_68i, r109_69, r109_72, r109_72n, r109_73, r109_74, r109_77, r109_81, r109_82, r109_85, r109_86, r109_86n, r109_87, r109_88, r109_94, r109_97, hl16 hO, sl16 hO, q109_5 kw (ci _), pf_7050, h1, bI_0, oGF_is, WPo_some, List.getElem?_cons_succ, List.getElem?_cons_zero, kil_n, kil_i, kil_a, kil_u, kil_l, Option.toList_some, Option.toList_none, List.cons_append, List.nil_append, List.set_cons_succ, List.set_cons_zero, addm1, Nat.reduceAdd, List.length_cons, List.length_nil, Nat.reduceLT, nI_clamp, nI_toInt, nI_leL, nI_Lle, nI_ltL, nI_Llt, nI_eqL, nI_Leq, nI_leE, nI_ltE, nI_eqE, nI_eqM, nI_add, nI_addL, nI_Ladd, nI_mulL, nI_Lmul, pk_mul, pk_sub, nI_subL, nI_Lsub, i2l_nI, Int.toNat_natCast, Nat.not_lt_zero, Nat.zero_le, ifT, ifF, not_true_eq_false, not_false_eq_true, if_true, if_false, or_self, and_self, true_and, and_true, or_true, true_or, false_or, or_false, false_and, and_false, show ¬ (1 : Int32) = 0 by decide]
    · subst h2
      simp (disch := first | assumption | omega | decide | (simp only [List.length_cons, List.length_nil, Nat.reduceAdd, Nat.reduceLT]; done) | fail) only [r109_0, r109_0n, r109_1, r109_2, r109_8, r109_9, r109_10, r109_11, r109_14, r109_15, r109_18, r109_21, r109_22, r109_23, r109_26, r109_27, r109_30, r109_33, r109_34, r109_37, r109_38, r109_39, r109_40, r109_43, r109_44, r109_44i, r109_45, r109_48, r109_49, r109_50, r109_53, r109_54, r109_54n, r109_55, r109_56, r109_62, r109_64, r109_67, r109_68, r109_68i, r109_69, r109_72, r109_72n, r109_73, r109_74, r109_77, r109_81, r109_82, r109_85, r109_86, r109_86n, r109_87, r109_88, r109_94, r109_97, hl16 hO, sl16 hO, q109_5 kw (ci _), pf_7050, h1, bI_0, Bool.true_eq_false, oGF_is, WPo_some, List.getElem?_cons_succ, List.getElem?_cons_zero, kil_n, kil_i, kil_a, kil_u, kil_l, Option.toList_some, Option.toList_none, List.cons_append, List.nil_append, List.set_cons_succ, List.set_cons_zero, addm1, Nat.reduceAdd, List.length_cons, List.length_nil, Nat.reduceLT, nI_clamp, nI_toInt, nI_leL, nI_Lle, nI_ltL, nI_Llt, nI_eqL, nI_Leq, nI_leE, nI_ltE, nI_eqE, nI_eqM, nI_add, nI_addL, nI_Ladd, nI_mulL, nI_Lmul, pk_mul, pk_sub, nI_subL, nI_Lsub, i2l_nI, Int.toNat_natCast, Nat.not_lt_zero, Nat.zero_le, ifT, ifF, not_true_eq_false, not_false_eq_true, if_true, if_false, or_self, and_self, true_and, and_true, or_true, true_or, false_or, or_false, false_and, and_false, show ¬ (1 : Int32) = 0 by decide]
  · rw [if_neg hh]
    have held : ∀ Q : Option Value → aHp → Prop, WP E (c + 3) 109 54 [some (.ref (A 16)), some (.ref (A b)), some (.int (nI C.2.1)), some (.int 0)] [] (oh E ah A (mst A S (P, R, pn, up, at', cr) al ac dn)) Q → WP E (c + 3) 109 0 [some (.ref (A 16)), some (.ref (A b)), none, none] [] (oh E ah A (mst A S (P, R, pn, up, at', cr) al ac dn)) Q := by
      intro Q w
      by_cases w1 : C.2.1 = 1
      · have u : up = true := by
          cases up with
          | true => rfl
          | false => exact absurd (Or.inl ⟨w1, rfl⟩) hh
        subst u
        simp (disch := first | assumption | omega | decide | (simp only [List.length_cons, List.length_nil, Nat.reduceAdd, Nat.reduceLT]; done) | fail) only [r109_0, r109_0n, r109_1, r109_2, r109_8, r109_9, r109_10, r109_11, r109_14, r109_15, r109_18, r109_21, r109_22, r109_23, r109_26, r109_27, r109_30, r109_33, r109_34, r109_37, r109_38, r109_39, r109_40, hl16 hO, q109_5 kw (ci _), eq_true w1, bI_0, Bool.true_eq_false, oGF_is, WPo_some, List.getElem?_cons_succ, List.getElem?_cons_zero, kil_n, kil_i, kil_a, kil_u, kil_l, Option.toList_some, Option.toList_none, List.cons_append, List.nil_append, List.set_cons_succ, List.set_cons_zero, addm1, Nat.reduceAdd, List.length_cons, List.length_nil, Nat.reduceLT, nI_clamp, nI_toInt, nI_leL, nI_Lle, nI_ltL, nI_Llt, nI_eqL, nI_Leq, nI_leE, nI_ltE, nI_eqE, nI_eqM, nI_add, nI_addL, nI_Ladd, nI_mulL, nI_Lmul, pk_mul, pk_sub, nI_subL, nI_Lsub, i2l_nI, Int.toNat_natCast, Nat.not_lt_zero, Nat.zero_le, ifT, ifF, not_true_eq_false, not_false_eq_true, if_true, if_false, or_self, and_self, true_and, and_true, or_true, true_or, false_or, or_false, false_and, and_false, show ¬ C.2.1 = 2 by omega]
        exact w
      · by_cases w2 : C.2.1 = 2
        · have u : up = false := by
            cases up with
            | false => rfl
            | true => exact absurd (Or.inr ⟨w2, rfl⟩) hh
          subst u
          simp (disch := first | assumption | omega | decide | (simp only [List.length_cons, List.length_nil, Nat.reduceAdd, Nat.reduceLT]; done) | fail) only [r109_0, r109_0n, r109_1, r109_2, r109_8, r109_9, r109_10, r109_11, r109_14, r109_15, r109_18, r109_21, r109_22, r109_23, r109_26, r109_27, r109_30, r109_33, r109_34, r109_37, r109_38, r109_39, r109_40, hl16 hO, q109_5 kw (ci _), w1, eq_true w2, bI_0, oGF_is, WPo_some, List.getElem?_cons_succ, List.getElem?_cons_zero, kil_n, kil_i, kil_a, kil_u, kil_l, Option.toList_some, Option.toList_none, List.cons_append, List.nil_append, List.set_cons_succ, List.set_cons_zero, addm1, Nat.reduceAdd, List.length_cons, List.length_nil, Nat.reduceLT, nI_clamp, nI_toInt, nI_leL, nI_Lle, nI_ltL, nI_Llt, nI_eqL, nI_Leq, nI_leE, nI_ltE, nI_eqE, nI_eqM, nI_add, nI_addL, nI_Ladd, nI_mulL, nI_Lmul, pk_mul, pk_sub, nI_subL, nI_Lsub, i2l_nI, Int.toNat_natCast, Nat.not_lt_zero, Nat.zero_le, ifT, ifF, not_true_eq_false, not_false_eq_true, if_true, if_false, or_self, and_self, true_and, and_true, or_true, true_or, false_or, or_false, false_and, and_false]
          exact w
        · simp (disch := first | assumption | omega | decide | (simp only [List.length_cons, List.length_nil, Nat.reduceAdd, Nat.reduceLT]; done) | fail) only [r109_0, r109_0n, r109_1, r109_2, r109_8, r109_9, r109_10, r109_11, r109_14, r109_15, r109_18, r109_21, r109_22, r109_23, r109_26, r109_27, r109_30, r109_33, r109_34, r109_37, r109_38, r109_39, r109_40, hl16 hO, q109_5 kw (ci _), w1, w2, oGF_is, WPo_some, List.getElem?_cons_succ, List.getElem?_cons_zero, kil_n, kil_i, kil_a, kil_u, kil_l, Option.toList_some, Option.toList_none, List.cons_append, List.nil_append, List.set_cons_succ, List.set_cons_zero, addm1, Nat.reduceAdd, List.length_cons, List.length_nil, Nat.reduceLT, nI_clamp, nI_toInt, nI_leL, nI_Lle, nI_ltL, nI_Llt, nI_eqL, nI_Leq, nI_leE, nI_ltE, nI_eqE, nI_eqM, nI_add, nI_addL, nI_Ladd, nI_mulL, nI_Lmul, pk_mul, pk_sub, nI_subL, nI_Lsub, i2l_nI, Int.toNat_natCast, Nat.not_lt_zero, Nat.zero_le, ifT, ifF, not_true_eq_false, not_false_eq_true, if_true, if_false, or_self, and_self, true_and, and_true, or_true, true_or, false_or, or_false, false_and, and_false]
          exact w
    refine held _ ?_
    have n0 := (d4 hk).1
    by_cases h6 : C.1 = 6
    · rw [if_pos h6]
      have e6 : kd at' = 6 := by rw [d1, h6]; rfl
      have k0 := c_numOf (E := E) (c := c + 1) hO hb (hH1 (P, R, pn, up, at', cr)) hc hat (j := 0) (by decide)
      rw [show nI 0 = (0 : Int32) from rfl, show 4 * at' + 0 = 4 * at' from rfl, n0] at k0
      have kg := c_goalOf (E := E) (c := c) hO hb (hH1 (P, R, pn, up, at', cr + nI (C.2.2.1 0))) hc hat
      rw [if_pos e6, n0, pk_sub (show C.2.2.1 0 ≤ at' by have := fun z => hl.1 ⟨h6, z⟩; omega)] at kg
      simp (disch := first | assumption | omega | decide | (simp only [List.length_cons, List.length_nil, Nat.reduceAdd, Nat.reduceLT]; done) | fail) only [r109_54, r109_54n, r109_55, r109_56, r109_62, r109_64, r109_67, r109_68, r109_68i, r109_69, r109_72, r109_72n, r109_73, r109_74, r109_77, r109_81, r109_82, r109_85, r109_86, r109_86n, r109_87, r109_88, r109_94, r109_97, hl16 hO, sl16 hO, q109_59 kk (ci _), q109_78 k0 (ci _), q109_91 kg (ci _), pf_7050, pf_7060, eq_true h6, oGF_is, WPo_some, List.getElem?_cons_succ, List.getElem?_cons_zero, kil_n, kil_i, kil_a, kil_u, kil_l, Option.toList_some, Option.toList_none, List.cons_append, List.nil_append, List.set_cons_succ, List.set_cons_zero, addm1, Nat.reduceAdd, List.length_cons, List.length_nil, Nat.reduceLT, nI_clamp, nI_toInt, nI_leL, nI_Lle, nI_ltL, nI_Llt, nI_eqL, nI_Leq, nI_leE, nI_ltE, nI_eqE, nI_eqM, nI_add, nI_addL, nI_Ladd, nI_mulL, nI_Lmul, pk_mul, pk_sub, nI_subL, nI_Lsub, i2l_nI, Int.toNat_natCast, Nat.not_lt_zero, Nat.zero_le, ifT, ifF, not_true_eq_false, not_false_eq_true, if_true, if_false, or_self, and_self, true_and, and_true, or_true, true_or, false_or, or_false, false_and, and_false]
    · rw [if_neg h6]
      have h7 : C.1 = 7 := by omega
      have e6 : ¬ kd at' = 6 := by rw [d1, h7]; decide
      have kg := c_goalOf (E := E) (c := c) hO hb (hH1 (P, R, pn, up, at', cr)) hc hat
      rw [if_neg e6, n0, nI_add] at kg
      simp (disch := first | assumption | omega | decide | (simp only [List.length_cons, List.length_nil, Nat.reduceAdd, Nat.reduceLT]; done) | fail) only [r109_54, r109_54n, r109_55, r109_56, r109_62, r109_64, r109_67, r109_68, r109_68i, r109_69, r109_72, r109_72n, r109_73, r109_74, r109_77, r109_81, r109_82, r109_85, r109_86, r109_86n, r109_87, r109_88, r109_94, r109_97, hl16 hO, sl16 hO, q109_59 kk (ci _), q109_91 kg (ci _), pf_7050, h6, oGF_is, WPo_some, List.getElem?_cons_succ, List.getElem?_cons_zero, kil_n, kil_i, kil_a, kil_u, kil_l, Option.toList_some, Option.toList_none, List.cons_append, List.nil_append, List.set_cons_succ, List.set_cons_zero, addm1, Nat.reduceAdd, List.length_cons, List.length_nil, Nat.reduceLT, nI_clamp, nI_toInt, nI_leL, nI_Lle, nI_ltL, nI_Llt, nI_eqL, nI_Leq, nI_leE, nI_ltE, nI_eqE, nI_eqM, nI_add, nI_addL, nI_Ladd, nI_mulL, nI_Lmul, pk_mul, pk_sub, nI_subL, nI_Lsub, i2l_nI, Int.toNat_natCast, Nat.not_lt_zero, Nat.zero_le, ifT, ifF, not_true_eq_false, not_false_eq_true, if_true, if_false, or_self, and_self, true_and, and_true, or_true, true_or, false_or, or_false, false_and, and_false]
theorem c_multiply (hO : XO E ah A) (hb : 61 ≤ b ∧ b ≤ 67) (hH : dkH A S b kd wn nm ls wl cn) (hc : cn ≤ 40) (hat : at' < cn) {d : Nat} (hd : d < 20) (hn : nm (4 * at' + 2) = nI d) {G : Nat → Nat} (hG : GG G) {x y : Int64} (hx : bw x) (hy : bw y) : EV E (c + 3) 110 [.ref (A 16), .ref (A b), .long x, .long y] (oh E ah A (mst A S (P, R, pn, up, at', cr) 0 ac dn)) none (oh E ah A (if 999999999999 < x.toInt.natAbs * y.toInt.natAbs then mst A S (P, R, pn, up, at', cr) 1 ac dn else mst A S (vp_updL P d (x * y), R, pn, decide (x * y < 0), at' + 1, cr + (2 + nI (G x.toInt.natAbs))) 0 ac dn)) := by
  refine e110 ?_
  have hx' := hx
  have hy' := hy
  unfold bw at hx' hy'
  have ka := c_absL (E := E) (c := c + 2) (ah := oh E ah A (mst A S (P, R, pn, up, at', cr) 0 ac dn)) (x := x) (by omega)
  have kb := c_absL (E := E) (c := c + 2) (ah := oh E ah A (mst A S (P, R, pn, up, at', cr) 0 ac dn)) (x := y) (by omega)
  have kt := c_least (E := E) (c := c + 1) (ah := oh E ah A (mst A S (P, R, pn, up, at', cr) 0 ac dn)) hG (N := x.toInt.natAbs) (by omega)
  have cmp : (lN x.toInt.natAbs ≤ 0) = (x.toInt.natAbs = 0) := by
    rw [show (0 : Int64) = lN 0 from rfl, lN_le63 (by omega) (by omega)]
    apply propext
    omega
  by_cases ov : 999999999999 < x.toInt.natAbs * y.toInt.natAbs
  · rw [if_pos ov]
    have x0 : ¬ x.toInt.natAbs = 0 := fun z => by rw [z] at ov; omega
    have y0 : ¬ lN x.toInt.natAbs = 0 := fun z => by
      have := congrArg Int64.toInt z
      rw [lN_toInt63 (by omega)] at this
      have e : (0 : Int64).toInt = 0 := rfl
      omega
    have bl := big_le (s := x.toInt.natAbs) (y := y.toInt.natAbs) (by omega) hx' hy'
    have bl' : ¬ lN y.toInt.natAbs ≤ 999999999999 / lN x.toInt.natAbs := by rw [bl]; exact not_not_intro ov
    have s3 := sl16 (E := E) (S := S) (P := P) (R := R) (pn := pn) (up := up) (at' := at') (cr := cr) (al := 0) (ac := ac) (dn := dn) (pn' := pn) (up' := up) (at2 := at') (cr' := cr) (al' := 1) (ac' := ac) (dn' := dn) hO
    rw [show nI 1 = (1 : Int32) from rfl] at s3
    simp (disch := first | assumption | omega | decide | (simp only [List.length_cons, List.length_nil, Nat.reduceAdd, Nat.reduceLT]; done) | fail) only [r110_0, r110_4, r110_6, r110_8, r110_9, r110_10, r110_13, r110_18, r110_21, r110_24, r110_25, r110_28, r110_29, r110_30, r110_33, r110_36, r110_37, r110_37n, r110_38, r110_39, r110_41, r110_42, r110_43, r110_48, r110_52, r110_23, q110_1 ka, q110_15 kb, lg_cmp_le, cmp, x0, bl', hl16 hO, s3, pf_7070, oGF_is, WPo_some, List.getElem?_cons_succ, List.getElem?_cons_zero, kil_n, kil_i, kil_a, kil_u, kil_l, Option.toList_some, Option.toList_none, List.cons_append, List.nil_append, List.set_cons_succ, List.set_cons_zero, addm1, Nat.reduceAdd, List.length_cons, List.length_nil, Nat.reduceLT, not_true_eq_false, not_false_eq_true, if_true, if_false, or_self, and_self, true_and, and_true, or_true, true_or, false_or, or_false, false_and, and_false]
  · rw [if_neg ov]
    have m := bw_mul (x := x) (y := y) (by omega)
    have kc := c_conclude (E := E) (c := c) (S := S) (P := P) (R := R) (pn := pn) (up := up) (cr := cr) (al := 0) (ac := ac) (dn := dn) hO hb hH hc hat hd hn (r := x * y) (x := 2 + nI (G x.toInt.natAbs)) (by have := m.2; unfold bw at this; omega)
    by_cases x0 : x.toInt.natAbs = 0
    · simp (disch := first | assumption | omega | decide | (simp only [List.length_cons, List.length_nil, Nat.reduceAdd, Nat.reduceLT]; done) | fail) only [r110_0, r110_4, r110_6, r110_8, r110_9, r110_10, r110_13, r110_18, r110_21, r110_24, r110_25, r110_28, r110_29, r110_30, r110_33, r110_36, r110_37, r110_37n, r110_38, r110_39, r110_41, r110_42, r110_43, r110_48, r110_52, q110_1 ka, q110_45 kt, q110_49 kc (ml_ci hO), lg_cmp_le, cmp, eq_true x0, oGF_is, WPo_some, List.getElem?_cons_succ, List.getElem?_cons_zero, kil_n, kil_i, kil_a, kil_u, kil_l, Option.toList_some, Option.toList_none, List.cons_append, List.nil_append, List.set_cons_succ, List.set_cons_zero, addm1, Nat.reduceAdd, List.length_cons, List.length_nil, Nat.reduceLT, not_true_eq_false, not_false_eq_true, if_true, if_false, or_self, and_self, true_and, and_true, or_true, true_or, false_or, or_false, false_and, and_false]
    · have y0 : ¬ lN x.toInt.natAbs = 0 := fun z => by
        have := congrArg Int64.toInt z
        rw [lN_toInt63 (by omega)] at this
        have e : (0 : Int64).toInt = 0 := rfl
        omega
      have bl := big_le (s := x.toInt.natAbs) (y := y.toInt.natAbs) (by omega) hx' hy'
      have bl' : lN y.toInt.natAbs ≤ 999999999999 / lN x.toInt.natAbs := by rw [bl]; exact ov
      simp (disch := first | assumption | omega | decide | (simp only [List.length_cons, List.length_nil, Nat.reduceAdd, Nat.reduceLT]; done) | fail) only [r110_0, r110_4, r110_6, r110_8, r110_9, r110_10, r110_13, r110_18, r110_21, r110_24, r110_25, r110_28, r110_29, r110_30, r110_33, r110_36, r110_37, r110_37n, r110_38, r110_39, r110_41, r110_42, r110_43, r110_48, r110_52, r110_23, q110_1 ka, q110_15 kb, q110_45 kt, q110_49 kc (ml_ci hO), lg_cmp_le, cmp, x0, bl', oGF_is, WPo_some, List.getElem?_cons_succ, List.getElem?_cons_zero, kil_n, kil_i, kil_a, kil_u, kil_l, Option.toList_some, Option.toList_none, List.cons_append, List.nil_append, List.set_cons_succ, List.set_cons_zero, addm1, Nat.reduceAdd, List.length_cons, List.length_nil, Nat.reduceLT, not_true_eq_false, not_false_eq_true, if_true, if_false, or_self, and_self, true_and, and_true, or_true, true_or, false_or, or_false, false_and, and_false]
theorem c_divide (hO : XO E ah A) (hb : 61 ≤ b ∧ b ≤ 67) (hH : dkH A S b kd wn nm ls wl cn) (hc : cn ≤ 40) (hat : at' < cn) {d d3 : Nat} (hd : d < 20) (hn : nm (4 * at' + 2) = nI d) (hd3 : d3 < 20) (hn3 : nm (4 * at' + 3) = nI d3) {G : Nat → Nat} (hG : GG G) {x y : Int64} (hx : bw x) (hy : bw y) : EV E (c + 3) 111 [.ref (A 16), .ref (A b), .long x, .long y] (oh E ah A (mst A S (P, R, pn, up, at', cr) 0 ac dn)) none (oh E ah A (if y = 0 then mst A S (P, R, pn, up, at', cr) 2 ac dn else mst A S (vp_updL (vp_updL P d (x / y)) d3 (x - x / y * y), R, pn, decide (x / y < 0), at' + 1, cr + (3 + nI (G (x / y).toInt.natAbs))) 0 ac dn)) := by
  refine e111 ?_
  by_cases y0 : y = 0
  · rw [if_pos y0]
    have s3 := sl16 (E := E) (S := S) (P := P) (R := R) (pn := pn) (up := up) (at' := at') (cr := cr) (al := 0) (ac := ac) (dn := dn) (pn' := pn) (up' := up) (at2 := at') (cr' := cr) (al' := 2) (ac' := ac) (dn' := dn) hO
    rw [show nI 2 = (2 : Int32) from rfl] at s3
    simp (disch := first | assumption | omega | decide | (simp only [List.length_cons, List.length_nil, Nat.reduceAdd, Nat.reduceLT]; done) | fail) only [r111_0, r111_2, r111_3, r111_4, r111_7, r111_8, r111_9, r111_12, lg_cmp_eq, eq_true y0, hl16 hO, s3, pf_7070, oGF_is, WPo_some, List.getElem?_cons_succ, List.getElem?_cons_zero, kil_n, kil_i, kil_a, kil_u, kil_l, Option.toList_some, Option.toList_none, List.cons_append, List.nil_append, List.set_cons_succ, List.set_cons_zero, addm1, Nat.reduceAdd, List.length_cons, List.length_nil, Nat.reduceLT, not_true_eq_false, not_false_eq_true, if_true, if_false, or_self, and_self, true_and, and_true, or_true, true_or, false_or, or_false, false_and, and_false]
  · rw [if_neg y0]
    obtain ⟨q1, q2, q3⟩ := bw_div hx y0
    have q2' := q2
    unfold bw at q2'
    have hH1 := dkH_ml (al := 0) (ac := ac) (dn := dn) hb (st := (P, R, pn, up, at', cr)) hH
    have k3 := c_numOf (E := E) (c := c + 1) hO hb hH1 hc hat (j := 3) (by decide)
    rw [hn3, show nI 3 = (3 : Int32) from rfl] at k3
    have ka := c_absL (E := E) (c := c + 2) (ah := oh E ah A (mst A S (P, R, pn, up, at', cr) 0 ac dn)) (x := x / y) (by omega)
    have kt := c_least (E := E) (c := c + 1) (ah := oh E ah A (mst A S (P, R, pn, up, at', cr) 0 ac dn)) hG (N := (x / y).toInt.natAbs) (by omega)
    have kc := c_conclude (E := E) (c := c) (S := S) (P := P) (R := R) (pn := pn) (up := up) (cr := cr) (al := 0) (ac := ac) (dn := dn) hO hb hH hc hat hd hn (r := x / y) (x := 3 + nI (G (x / y).toInt.natAbs)) (by omega)
    have kl := c_layM (E := E) (c := c + 2) (S := S) (P := vp_updL P d (x / y)) (R := R) (pn := pn) (up := decide (x / y < 0)) (at' := at' + 1) (cr := cr + (3 + nI (G (x / y).toInt.natAbs))) (al := 0) (ac := ac) (dn := dn) hO hd3 (x := x - x / y * y)
    simp (disch := first | assumption | omega | decide | (simp only [List.length_cons, List.length_nil, Nat.reduceAdd, Nat.reduceLT]; done) | fail) only [r111_0, r111_2, r111_3, r111_4, r111_7, r111_8, r111_9, r111_12, r111_13, r111_13n, r111_14, r111_15, r111_18, r111_22, r111_24, r111_25, r111_28, r111_30, r111_31, r111_31n, r111_32, r111_34, r111_35, r111_43, r111_47, r111_48, r111_50, r111_51, r111_57, r111_27 y0, r111_53 y0, lg_cmp_eq, y0, hl16 hO, q111_19 k3 (dkH_ci hO hb hH1), q111_37 ka, q111_40 kt, q111_44 kc (ml_ci hO), q111_54 kl (ml_ci hO), oGF_is, WPo_some, List.getElem?_cons_succ, List.getElem?_cons_zero, kil_n, kil_i, kil_a, kil_u, kil_l, Option.toList_some, Option.toList_none, List.cons_append, List.nil_append, List.set_cons_succ, List.set_cons_zero, addm1, Nat.reduceAdd, List.length_cons, List.length_nil, Nat.reduceLT, not_true_eq_false, not_false_eq_true, if_true, if_false, or_self, and_self, true_and, and_true, or_true, true_or, false_or, or_false, false_and, and_false]
end MLD

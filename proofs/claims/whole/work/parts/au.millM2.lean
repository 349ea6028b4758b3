/-! The model's mill: what a card does -/
section MMD
variable {E : aEnv} {c m : Nat} {ah : aHp} {ma : Nat → Nat} {v : Nat → Value} {ai : Nat → Nat → Int32} {al : Nat → Nat → Int64} {cn : Nat} {C : aCd}
theorem m_comes (h : MO E ah m ma) {i d : Nat} (hi : i < 40) (hd : d < 20) (e : ai 46 i = nI d) {r : Int64} : EV E c 256 [.ref m, .int (nI i), .long r] (mh E ah m ma v ai al) none (mh E ah m ma (vu v 61 (.int (bI (decide (r < 0))))) ai (lu al 58 (vp_updL (al 58) d r))) := by
  refine e256 ?_
  by_cases y : r < 0
  · have y' : ¬ 0 ≤ r := by simp only [i64_lt, i64_le, i2l_toInt, Int64.reduceToInt] at y ⊢; omega
    rw [show decide (r < 0) = true from decide_eq_true y]
    simp (disch := first | assumption | omega | decide | (simp only [List.length_cons, List.length_nil, Nat.reduceAdd, Nat.reduceLT]; done) | fail) only [r256_0, r256_1, r256_4, r256_5, r256_8, r256_9, r256_10, r256_11, r256_12, r256_13, r256_14, r256_15, r256_16, r256_19, r256_20, r256_23, r256_24, r256_27, mh_o h, mh_put h, gm_58, gm_46, pm_61, gI, pL, hm_46 h, hm_58 h, sm_58 h, e, lg_cmp_ge, y', WPo_some, List.getElem?_cons_succ, List.getElem?_cons_zero, kil_n, kil_i, kil_a, kil_u, kil_l, Option.toList_some, Option.toList_none, List.cons_append, List.nil_append, List.set_cons_succ, List.set_cons_zero, addm1, Nat.reduceAdd, List.length_cons, List.length_nil, Nat.reduceLT, nI_clamp, nI_toInt, nI_leL, nI_Lle, nI_ltL, nI_Llt, nI_eqL, nI_Leq, nI_leE, nI_ltE, nI_eqE, nI_eqM, nI_add, nI_addL, nI_Ladd, nI_mulL, nI_Lmul, pk_mul, pk_sub, nI_subL, nI_Lsub, i2l_nI, Int.toNat_natCast, Nat.not_lt_zero, Nat.zero_le, ifT, ifF, not_true_eq_false, not_false_eq_true, if_true, if_false, or_self, and_self, true_and, and_true, or_true, true_or, false_or, or_false, false_and, and_false]
    exact rfl
  · have y' : 0 ≤ r := by simp only [i64_lt, i64_le, i2l_toInt, Int64.reduceToInt] at y ⊢; omega
    rw [show decide (r < 0) = false from decide_eq_false y]
    simp (disch := first | assumption | omega | decide | (simp only [List.length_cons, List.length_nil, Nat.reduceAdd, Nat.reduceLT]; done) | fail) only [r256_0, r256_1, r256_4, r256_5, r256_8, r256_9, r256_10, r256_11, r256_12, r256_13, r256_14, r256_15, r256_16, r256_19, r256_20, r256_23, r256_24, r256_27, mh_o h, mh_put h, gm_58, gm_46, pm_61, gI, pL, hm_46 h, hm_58 h, sm_58 h, e, lg_cmp_ge, y', WPo_some, List.getElem?_cons_succ, List.getElem?_cons_zero, kil_n, kil_i, kil_a, kil_u, kil_l, Option.toList_some, Option.toList_none, List.cons_append, List.nil_append, List.set_cons_succ, List.set_cons_zero, addm1, Nat.reduceAdd, List.length_cons, List.length_nil, Nat.reduceLT, nI_clamp, nI_toInt, nI_leL, nI_Lle, nI_ltL, nI_Llt, nI_eqL, nI_Leq, nI_leE, nI_ltE, nI_eqE, nI_eqM, nI_add, nI_addL, nI_Ladd, nI_mulL, nI_Lmul, pk_mul, pk_sub, nI_subL, nI_Lsub, i2l_nI, Int.toNat_natCast, Nat.not_lt_zero, Nat.zero_le, ifT, ifF, not_true_eq_false, not_false_eq_true, if_true, if_false, or_self, and_self, true_and, and_true, or_true, true_or, false_or, or_false, false_and, and_false]
    exact rfl
noncomputable def frM (v v' : Nat → Value) (ai ai' : Nat → Nat → Int32) (al al' : Nat → Nat → Int64) : Prop := (∀ k, ¬ (61 ≤ k ∧ k ≤ 63) → v' k = v k) ∧ (∀ k, ¬ (67 ≤ k ∧ k ≤ 69) → ai' k = ai k) ∧ ∀ k, k ≠ 58 → k ≠ 59 → al' k = al k
theorem bI_e (b : Bool) : bI b = if b = true then 1 else 0 := by cases b <;> rfl
theorem m_does (h : MO E ah m ma) (hc : cn ≤ 40) {st : aMs} (hst : okM st cn) (hat : st.2.2.2.2.1 < cn) (hJ : mkJ ai al st.2.2.2.2.1 C) (hC : cdOK C) (hl : ldX C st.2.2.2.2.1 cn = false) (hM : mMs v al st) {G : Nat → Nat} (hG : GG G) (ha : alm C st.1 st.2.2.1 = 0) : ∃ v' ai' al', EV E (c + 2) 257 [.ref m, .int (nI st.2.2.2.2.1)] (mh E ah m ma v ai al) (some (.int (nI (doS G C st).2.2.2.2.1))) (mh E ah m ma v' ai' al') ∧ mMs v' al' (doS G C st) ∧ frM v v' ai ai' al al' := by
  obtain ⟨P, R, pn, up, at', cr⟩ := st
  dsimp only at *
  obtain ⟨s1, s2, s3⟩ := hst
  obtain ⟨m1, m2, m3, m4, m5⟩ := hM
  dsimp only at *
  obtain ⟨d1, d2, d3, d4, d5, d6, d7, d8⟩ := hJ
  have hC0 := hC
  obtain ⟨o1, o2, o3, o4, -⟩ := hC
  have o30 := o3 0
  unfold alm at ha
  -- the head: x, y and whether it is led, then the switch
  have head : ∀ (x y : Int64) (is : Int32) (Q : Option Value → aHp → Prop), (C.1 ≤ 5 → x = P (C.2.2.1 0)) → (¬ C.1 ≤ 5 → x = 0) → (1 ≤ C.1 ∧ C.1 ≤ 4 → y = P (C.2.2.1 1)) → (¬ (1 ≤ C.1 ∧ C.1 ≤ 4) → y = 0) → (is = if (C.2.1 = 1 ∧ up = false) ∨ (C.2.1 = 2 ∧ up = true) then 0 else 1) → WP E (c + 2) 257 116 [some (.ref m), some (.int (nI at')), some (.long x), none, some (.long y), none, some (.int is)] [.int (nI C.1)] (mh E ah m ma v ai al) Q → WP E (c + 2) 257 0 [some (.ref m), some (.int (nI at')), none, none, none, none, none] [] (mh E ah m ma v ai al) Q := by
    intro x y is Q hx1 hx2 hy1 hy2 his w
    -- whether it is led
    have led : ∀ (x y : Int64), WP E (c + 2) 257 116 [some (.ref m), some (.int (nI at')), some (.long x), none, some (.long y), none, some (.int is)] [.int (nI C.1)] (mh E ah m ma v ai al) Q → WP E (c + 2) 257 72 [some (.ref m), some (.int (nI at')), some (.long x), none, some (.long y), none, none] [] (mh E ah m ma v ai al) Q := by
      intro x y w
      rcases (show C.2.1 = 0 ∨ C.2.1 = 1 ∨ C.2.1 = 2 by omega) with k | k | k
      · rw [k, show nI 0 = (0 : Int32) from rfl] at d2
        rw [if_neg (by omega)] at his
        subst his
        simp (disch := first | assumption | omega | decide | (simp only [List.length_cons, List.length_nil, Nat.reduceAdd, Nat.reduceLT]; done) | fail) only [r257_72, r257_73, r257_76, r257_77, r257_78, r257_81, r257_82, r257_85, r257_86, r257_89, r257_90, r257_91, r257_92, r257_95, r257_96, r257_99, r257_100, r257_103, r257_104, r257_107, r257_108, r257_110, r257_111, r257_114, r257_115, mh_o h, gm_48, gm_43, gI, hm_48 h, hm_43 h, d2, d1, WPo_some, List.getElem?_cons_succ, List.getElem?_cons_zero, kil_n, kil_i, kil_a, kil_u, kil_l, Option.toList_some, Option.toList_none, List.cons_append, List.nil_append, List.set_cons_succ, List.set_cons_zero, addm1, Nat.reduceAdd, List.length_cons, List.length_nil, Nat.reduceLT, nI_clamp, nI_toInt, nI_leL, nI_Lle, nI_ltL, nI_Llt, nI_eqL, nI_Leq, nI_leE, nI_ltE, nI_eqE, nI_eqM, nI_add, nI_addL, nI_Ladd, nI_mulL, nI_Lmul, pk_mul, pk_sub, nI_subL, nI_Lsub, i2l_nI, Int.toNat_natCast, Nat.not_lt_zero, Nat.zero_le, ifT, ifF, not_true_eq_false, not_false_eq_true, if_true, if_false, or_self, and_self, true_and, and_true, or_true, true_or, false_or, or_false, false_and, and_false]
        exact w
      · rw [k, show nI 1 = (1 : Int32) from rfl] at d2
        cases up with
        | true =>
          rw [if_neg (by rw [k]; simp)] at his
          subst his
          simp (disch := first | assumption | omega | decide | (simp only [List.length_cons, List.length_nil, Nat.reduceAdd, Nat.reduceLT]; done) | fail) only [r257_72, r257_73, r257_76, r257_77, r257_78, r257_81, r257_82, r257_85, r257_86, r257_89, r257_90, r257_91, r257_92, r257_95, r257_96, r257_99, r257_100, r257_103, r257_104, r257_107, r257_108, r257_110, r257_111, r257_114, r257_115, mh_o h, gm_48, gm_43, gm_61, gI, hm_48 h, hm_43 h, d2, d1, m4, bI, WPo_some, List.getElem?_cons_succ, List.getElem?_cons_zero, kil_n, kil_i, kil_a, kil_u, kil_l, Option.toList_some, Option.toList_none, List.cons_append, List.nil_append, List.set_cons_succ, List.set_cons_zero, addm1, Nat.reduceAdd, List.length_cons, List.length_nil, Nat.reduceLT, nI_clamp, nI_toInt, nI_leL, nI_Lle, nI_ltL, nI_Llt, nI_eqL, nI_Leq, nI_leE, nI_ltE, nI_eqE, nI_eqM, nI_add, nI_addL, nI_Ladd, nI_mulL, nI_Lmul, pk_mul, pk_sub, nI_subL, nI_Lsub, i2l_nI, Int.toNat_natCast, Nat.not_lt_zero, Nat.zero_le, ifT, ifF, not_true_eq_false, not_false_eq_true, if_true, if_false, or_self, and_self, true_and, and_true, or_true, true_or, false_or, or_false, false_and, and_false, show ¬ (1 : Int32) = 0 by decide]
          exact w
        | false =>
          rw [if_pos (Or.inl ⟨k, rfl⟩)] at his
          subst his
          simp (disch := first | assumption | omega | decide | (simp only [List.length_cons, List.length_nil, Nat.reduceAdd, Nat.reduceLT]; done) | fail) only [r257_72, r257_73, r257_76, r257_77, r257_78, r257_81, r257_82, r257_85, r257_86, r257_89, r257_90, r257_91, r257_92, r257_95, r257_96, r257_99, r257_100, r257_103, r257_104, r257_107, r257_108, r257_110, r257_111, r257_114, r257_115, mh_o h, gm_48, gm_43, gm_61, gI, hm_48 h, hm_43 h, d2, d1, m4, bI, Bool.false_eq_true, WPo_some, List.getElem?_cons_succ, List.getElem?_cons_zero, kil_n, kil_i, kil_a, kil_u, kil_l, Option.toList_some, Option.toList_none, List.cons_append, List.nil_append, List.set_cons_succ, List.set_cons_zero, addm1, Nat.reduceAdd, List.length_cons, List.length_nil, Nat.reduceLT, nI_clamp, nI_toInt, nI_leL, nI_Lle, nI_ltL, nI_Llt, nI_eqL, nI_Leq, nI_leE, nI_ltE, nI_eqE, nI_eqM, nI_add, nI_addL, nI_Ladd, nI_mulL, nI_Lmul, pk_mul, pk_sub, nI_subL, nI_Lsub, i2l_nI, Int.toNat_natCast, Nat.not_lt_zero, Nat.zero_le, ifT, ifF, not_true_eq_false, not_false_eq_true, if_true, if_false, or_self, and_self, true_and, and_true, or_true, true_or, false_or, or_false, false_and, and_false, show ¬ (1 : Int32) = 0 by decide, show ¬ (0 : Int32) = 1 by decide]
          exact w
      · rw [k, show nI 2 = (2 : Int32) from rfl] at d2
        cases up with
        | true =>
          rw [if_pos (Or.inr ⟨k, rfl⟩)] at his
          subst his
          simp (disch := first | assumption | omega | decide | (simp only [List.length_cons, List.length_nil, Nat.reduceAdd, Nat.reduceLT]; done) | fail) only [r257_72, r257_73, r257_76, r257_77, r257_78, r257_81, r257_82, r257_85, r257_86, r257_89, r257_90, r257_91, r257_92, r257_95, r257_96, r257_99, r257_100, r257_103, r257_104, r257_107, r257_108, r257_110, r257_111, r257_114, r257_115, mh_o h, gm_48, gm_43, gm_61, gI, hm_48 h, hm_43 h, d2, d1, m4, bI, WPo_some, List.getElem?_cons_succ, List.getElem?_cons_zero, kil_n, kil_i, kil_a, kil_u, kil_l, Option.toList_some, Option.toList_none, List.cons_append, List.nil_append, List.set_cons_succ, List.set_cons_zero, addm1, Nat.reduceAdd, List.length_cons, List.length_nil, Nat.reduceLT, nI_clamp, nI_toInt, nI_leL, nI_Lle, nI_ltL, nI_Llt, nI_eqL, nI_Leq, nI_leE, nI_ltE, nI_eqE, nI_eqM, nI_add, nI_addL, nI_Ladd, nI_mulL, nI_Lmul, pk_mul, pk_sub, nI_subL, nI_Lsub, i2l_nI, Int.toNat_natCast, Nat.not_lt_zero, Nat.zero_le, ifT, ifF, not_true_eq_false, not_false_eq_true, if_true, if_false, or_self, and_self, true_and, and_true, or_true, true_or, false_or, or_false, false_and, and_false, show ¬ (2 : Int32) = 0 by decide, show ¬ (2 : Int32) = 1 by decide, show ¬ (1 : Int32) = 0 by decide]
          exact w
        | false =>
          rw [if_neg (by rw [k]; simp)] at his
          subst his
          simp (disch := first | assumption | omega | decide | (simp only [List.length_cons, List.length_nil, Nat.reduceAdd, Nat.reduceLT]; done) | fail) only [r257_72, r257_73, r257_76, r257_77, r257_78, r257_81, r257_82, r257_85, r257_86, r257_89, r257_90, r257_91, r257_92, r257_95, r257_96, r257_99, r257_100, r257_103, r257_104, r257_107, r257_108, r257_110, r257_111, r257_114, r257_115, mh_o h, gm_48, gm_43, gm_61, gI, hm_48 h, hm_43 h, d2, d1, m4, bI, Bool.false_eq_true, WPo_some, List.getElem?_cons_succ, List.getElem?_cons_zero, kil_n, kil_i, kil_a, kil_u, kil_l, Option.toList_some, Option.toList_none, List.cons_append, List.nil_append, List.set_cons_succ, List.set_cons_zero, addm1, Nat.reduceAdd, List.length_cons, List.length_nil, Nat.reduceLT, nI_clamp, nI_toInt, nI_leL, nI_Lle, nI_ltL, nI_Llt, nI_eqL, nI_Leq, nI_leE, nI_ltE, nI_eqE, nI_eqM, nI_add, nI_addL, nI_Ladd, nI_mulL, nI_Lmul, pk_mul, pk_sub, nI_subL, nI_Lsub, i2l_nI, Int.toNat_natCast, Nat.not_lt_zero, Nat.zero_le, ifT, ifF, not_true_eq_false, not_false_eq_true, if_true, if_false, or_self, and_self, true_and, and_true, or_true, true_or, false_or, or_false, false_and, and_false, show ¬ (2 : Int32) = 0 by decide, show ¬ (2 : Int32) = 1 by decide]
          exact w
    by_cases h5 : C.1 ≤ 5
    · have a0 := o4 h5 0
      have a1 := o4 h5 1
      have pl1 : 0 < plc C.1 := by
        unfold plc
        repeat' split
        all_goals omega
      have n0 := d3 pl1
      have e6 : ¬ C.1 = 6 := by omega
      have e7 : ¬ C.1 = 7 := by omega
      rw [hx1 h5] at w
      by_cases h4 : 1 ≤ C.1 ∧ C.1 ≤ 4
      · have pl2 : 1 < plc C.1 := by
          unfold plc
          repeat' split
          all_goals omega
        have n1 := d4 pl2
        rw [hy1 h4] at w
        have w' := led _ _ w
        simp (disch := first | assumption | omega | decide | (simp only [List.length_cons, List.length_nil, Nat.reduceAdd, Nat.reduceLT]; done) | fail) only [r257_0, r257_1, r257_4, r257_5, r257_6, r257_8, r257_11, r257_12, r257_15, r257_16, r257_17, r257_19, r257_22, r257_23, r257_26, r257_27, r257_30, r257_31, r257_34, r257_35, r257_36, r257_37, r257_38, r257_39, r257_42, r257_43, r257_44, r257_45, r257_46, r257_52, r257_55, r257_56, r257_59, r257_60, r257_63, r257_64, r257_65, r257_66, r257_69, r257_70, mh_o h, gm_43, gm_44, gm_45, gm_58, gI, gL, hm_43 h, hm_44 h, hm_45 h, hm_58 h, d1, n0, n1, m1, e6, e7, q257_49 m_isIn, isk, h4, b2i_eq0, WPo_some, List.getElem?_cons_succ, List.getElem?_cons_zero, kil_n, kil_i, kil_a, kil_u, kil_l, Option.toList_some, Option.toList_none, List.cons_append, List.nil_append, List.set_cons_succ, List.set_cons_zero, addm1, Nat.reduceAdd, List.length_cons, List.length_nil, Nat.reduceLT, nI_clamp, nI_toInt, nI_leL, nI_Lle, nI_ltL, nI_Llt, nI_eqL, nI_Leq, nI_leE, nI_ltE, nI_eqE, nI_eqM, nI_add, nI_addL, nI_Ladd, nI_mulL, nI_Lmul, pk_mul, pk_sub, nI_subL, nI_Lsub, i2l_nI, Int.toNat_natCast, Nat.not_lt_zero, Nat.zero_le, ifT, ifF, not_true_eq_false, not_false_eq_true, if_true, if_false, or_self, and_self, true_and, and_true, or_true, true_or, false_or, or_false, false_and, and_false]
        exact w'
      · rw [hy2 h4] at w
        have w' := led _ _ w
        simp (disch := first | assumption | omega | decide | (simp only [List.length_cons, List.length_nil, Nat.reduceAdd, Nat.reduceLT]; done) | fail) only [r257_0, r257_1, r257_4, r257_5, r257_6, r257_8, r257_11, r257_12, r257_15, r257_16, r257_17, r257_19, r257_22, r257_23, r257_26, r257_27, r257_30, r257_31, r257_34, r257_35, r257_36, r257_37, r257_38, r257_39, r257_42, r257_43, r257_44, r257_45, r257_46, r257_52, r257_55, r257_56, r257_59, r257_60, r257_63, r257_64, r257_65, r257_66, r257_69, r257_70, mh_o h, gm_43, gm_44, gm_58, gI, gL, hm_43 h, hm_44 h, hm_58 h, d1, n0, m1, e6, e7, q257_49 m_isIn, isk, h4, b2i_eq0, WPo_some, List.getElem?_cons_succ, List.getElem?_cons_zero, kil_n, kil_i, kil_a, kil_u, kil_l, Option.toList_some, Option.toList_none, List.cons_append, List.nil_append, List.set_cons_succ, List.set_cons_zero, addm1, Nat.reduceAdd, List.length_cons, List.length_nil, Nat.reduceLT, nI_clamp, nI_toInt, nI_leL, nI_Lle, nI_ltL, nI_Llt, nI_eqL, nI_Leq, nI_leE, nI_ltE, nI_eqE, nI_eqM, nI_add, nI_addL, nI_Ladd, nI_mulL, nI_Lmul, pk_mul, pk_sub, nI_subL, nI_Lsub, i2l_nI, Int.toNat_natCast, Nat.not_lt_zero, Nat.zero_le, ifT, ifF, not_true_eq_false, not_false_eq_true, if_true, if_false, or_self, and_self, true_and, and_true, or_true, true_or, false_or, or_false, false_and, and_false]
        exact w'
    · have h4 : ¬ (1 ≤ C.1 ∧ C.1 ≤ 4) := by omega
      rw [hx2 h5, hy2 h4] at w
      have w' := led _ _ w
      by_cases k6 : C.1 = 6
      · simp (disch := first | assumption | omega | decide | (simp only [List.length_cons, List.length_nil, Nat.reduceAdd, Nat.reduceLT]; done) | fail) only [r257_0, r257_1, r257_4, r257_5, r257_6, r257_8, r257_11, r257_12, r257_15, r257_16, r257_17, r257_19, r257_22, r257_23, r257_26, r257_27, r257_30, r257_31, r257_34, r257_35, r257_36, r257_37, r257_38, r257_39, r257_42, r257_43, r257_44, r257_45, r257_46, r257_52, r257_55, r257_56, r257_59, r257_60, r257_63, r257_64, r257_65, r257_66, r257_69, r257_70, mh_o h, gm_43, gI, hm_43 h, d1, eq_true k6, q257_49 m_isIn, isk, h4, b2i_eq0, WPo_some, List.getElem?_cons_succ, List.getElem?_cons_zero, kil_n, kil_i, kil_a, kil_u, kil_l, Option.toList_some, Option.toList_none, List.cons_append, List.nil_append, List.set_cons_succ, List.set_cons_zero, addm1, Nat.reduceAdd, List.length_cons, List.length_nil, Nat.reduceLT, nI_clamp, nI_toInt, nI_leL, nI_Lle, nI_ltL, nI_Llt, nI_eqL, nI_Leq, nI_leE, nI_ltE, nI_eqE, nI_eqM, nI_add, nI_addL, nI_Ladd, nI_mulL, nI_Lmul, pk_mul, pk_sub, nI_subL, nI_Lsub, i2l_nI, Int.toNat_natCast, Nat.not_lt_zero, Nat.zero_le, ifT, ifF, not_true_eq_false, not_false_eq_true, if_true, if_false, or_self, and_self, true_and, and_true, or_true, true_or, false_or, or_false, false_and, and_false]
        exact w'
      · have k7 : C.1 = 7 := by omega
        simp (disch := first | assumption | omega | decide | (simp only [List.length_cons, List.length_nil, Nat.reduceAdd, Nat.reduceLT]; done) | fail) only [r257_0, r257_1, r257_4, r257_5, r257_6, r257_8, r257_11, r257_12, r257_15, r257_16, r257_17, r257_19, r257_22, r257_23, r257_26, r257_27, r257_30, r257_31, r257_34, r257_35, r257_36, r257_37, r257_38, r257_39, r257_42, r257_43, r257_44, r257_45, r257_46, r257_52, r257_55, r257_56, r257_59, r257_60, r257_63, r257_64, r257_65, r257_66, r257_69, r257_70, mh_o h, gm_43, gI, hm_43 h, d1, k6, eq_true k7, q257_49 m_isIn, isk, h4, b2i_eq0, WPo_some, List.getElem?_cons_succ, List.getElem?_cons_zero, kil_n, kil_i, kil_a, kil_u, kil_l, Option.toList_some, Option.toList_none, List.cons_append, List.nil_append, List.set_cons_succ, List.set_cons_zero, addm1, Nat.reduceAdd, List.length_cons, List.length_nil, Nat.reduceLT, nI_clamp, nI_toInt, nI_leL, nI_Lle, nI_ltL, nI_Llt, nI_eqL, nI_Leq, nI_leE, nI_ltE, nI_eqE, nI_eqM, nI_add, nI_addL, nI_Ladd, nI_mulL, nI_Lmul, pk_mul, pk_sub, nI_subL, nI_Lsub, i2l_nI, Int.toNat_natCast, Nat.not_lt_zero, Nat.zero_le, ifT, ifF, not_true_eq_false, not_false_eq_true, if_true, if_false, or_self, and_self, true_and, and_true, or_true, true_or, false_or, or_false, false_and, and_false]
        exact w'
  by_cases h5 : C.1 ≤ 5
  · have o4' := o4 h5
    have a0 := o4' 0
    have a1 := o4' 1
    have a2 := o4' 2
    have a3 := o4' 3
    have pl1 : 0 < plc C.1 := by
      unfold plc
      repeat' split
      all_goals omega
    have n0 := d3 pl1
    rcases (show C.1 = 0 ∨ C.1 = 1 ∨ C.1 = 2 ∨ C.1 = 3 ∨ C.1 = 4 ∨ C.1 = 5 by omega) with k | k | k | k | k | k
    · have eD : doS G C (P, R, pn, up, at', cr) = (vp_updL P (C.2.2.1 0) C.2.2.2.2, R, pn, up, at' + 1, cr + 1) := if_pos k
      rw [eD]
      refine ⟨vu v 63 (.int (cr + 1)), ai, lu al 58 (vp_updL P (C.2.2.1 0) C.2.2.2.2), e257 (head (P (C.2.2.1 0)) 0 _ _ (fun _ => rfl) (fun z => absurd h5 z) (fun z => absurd z (by omega)) (fun _ => rfl) rfl ?_), ⟨lu_at, by rw [lu_ne (by decide)]; exact m2, by rw [vu_ne (by decide)]; exact m3, by rw [vu_ne (by decide)]; exact m4, vu_at⟩, fun q hq => vu_ne (by omega), fun _ _ => rfl, fun q q1 q2 => lu_ne q1⟩
      rw [k, show nI 0 = (0 : Int32) from rfl]
      simp (disch := first | assumption | omega | decide | (simp only [List.length_cons, List.length_nil, Nat.reduceAdd, Nat.reduceLT]; done) | fail) only [r257_116_0, r257_160, r257_161, r257_164, r257_165, r257_168, r257_169, r257_170, r257_171, r257_174, r257_175, r257_176, r257_177, r257_178, r257_178i, r257_179, r257_182, r257_183, r257_184, r257_187, r257_188, r257_189, r257_190, mh_o h, mh_put h, gm_58, gm_44, gm_56, gm_63, pm_63, gI, gL, pL, hm_44 h, hm_56 h, hm_58 h, sm_58 h, n0, d8 k, m1, m5, WPo_some, List.getElem?_cons_succ, List.getElem?_cons_zero, kil_n, kil_i, kil_a, kil_u, kil_l, Option.toList_some, Option.toList_none, List.cons_append, List.nil_append, List.set_cons_succ, List.set_cons_zero, addm1, Nat.reduceAdd, List.length_cons, List.length_nil, Nat.reduceLT, nI_clamp, nI_toInt, nI_leL, nI_Lle, nI_ltL, nI_Llt, nI_eqL, nI_Leq, nI_leE, nI_ltE, nI_eqE, nI_eqM, nI_add, nI_addL, nI_Ladd, nI_mulL, nI_Lmul, pk_mul, pk_sub, nI_subL, nI_Lsub, i2l_nI, Int.toNat_natCast, Nat.not_lt_zero, Nat.zero_le, ifT, ifF, not_true_eq_false, not_false_eq_true, if_true, if_false, or_self, and_self, true_and, and_true, or_true, true_or, false_or, or_false, false_and, and_false]
    · rw [if_pos k] at ha
      have n2 := d5 (by rw [k]; decide)
      have eD : doS G C (P, R, pn, up, at', cr) = ccl C (P, R, pn, up, at', cr) (P (C.2.2.1 0) + P (C.2.2.1 1)) 2 := by unfold doS; rw [if_neg (by omega), if_pos k]
      rw [eD]
      have kc := m_comes (E := E) (c := c + 1) (v := v) (al := al) h (show at' < 40 by omega) (show C.2.2.1 2 < 20 by omega) n2 (r := P (C.2.2.1 0) + P (C.2.2.1 1))
      rw [m1] at kc
      have g63 : vu v 61 (.int (bI (decide (P (C.2.2.1 0) + P (C.2.2.1 1) < 0)))) 63 = .int cr := by rw [vu_ne (by decide)]; exact m5
      refine ⟨vu (vu v 61 (.int (bI (decide (P (C.2.2.1 0) + P (C.2.2.1 1) < 0))))) 63 (.int (cr + 2)), ai, lu al 58 (vp_updL P (C.2.2.1 2) (P (C.2.2.1 0) + P (C.2.2.1 1))), e257 (head (P (C.2.2.1 0)) (P (C.2.2.1 1)) _ _ (fun _ => rfl) (fun z => absurd h5 z) (fun _ => rfl) (fun z => absurd (by omega) z) rfl ?_), ⟨lu_at, by rw [lu_ne (by decide)]; exact m2, by rw [vu_ne (by decide), vu_ne (by decide)]; exact m3, by rw [vu_ne (by decide), vu_at]; rfl, vu_at⟩, fun q hq => by rw [vu_ne (by omega), vu_ne (by omega)], fun _ _ => rfl, fun q q1 q2 => lu_ne q1⟩
      rw [k, show nI 1 = (1 : Int32) from rfl] at d1 ⊢
      simp (disch := first | assumption | omega | decide | (simp only [List.length_cons, List.length_nil, Nat.reduceAdd, Nat.reduceLT]; done) | fail) only [r257_116_1, r257_191, r257_192, r257_193, r257_194, r257_197, r257_198, r257_199, r257_200, r257_203, r257_204, r257_206, r257_207, r257_210, r257_211, r257_213, r257_217, r257_218, r257_218i, r257_219, r257_222, r257_223, r257_224, r257_227, r257_228, r257_229, r257_230, mh_o h, mh_put h, gm_43, gm_63, pm_63, gI, hm_43 h, d1, g63, q257_214 kc h.ci, WPo_some, List.getElem?_cons_succ, List.getElem?_cons_zero, kil_n, kil_i, kil_a, kil_u, kil_l, Option.toList_some, Option.toList_none, List.cons_append, List.nil_append, List.set_cons_succ, List.set_cons_zero, addm1, Nat.reduceAdd, List.length_cons, List.length_nil, Nat.reduceLT, nI_clamp, nI_toInt, nI_leL, nI_Lle, nI_ltL, nI_Llt, nI_eqL, nI_Leq, nI_leE, nI_ltE, nI_eqE, nI_eqM, nI_add, nI_addL, nI_Ladd, nI_mulL, nI_Lmul, pk_mul, pk_sub, nI_subL, nI_Lsub, i2l_nI, Int.toNat_natCast, Nat.not_lt_zero, Nat.zero_le, ifT, ifF, not_true_eq_false, not_false_eq_true, if_true, if_false, or_self, and_self, true_and, and_true, or_true, true_or, false_or, or_false, false_and, and_false]
      exact rfl
    · rw [if_neg (by omega), if_pos k] at ha
      have n2 := d5 (by rw [k]; decide)
      have eD : doS G C (P, R, pn, up, at', cr) = ccl C (P, R, pn, up, at', cr) (P (C.2.2.1 0) - P (C.2.2.1 1)) 2 := by unfold doS; rw [if_neg (by omega), if_neg (by omega), if_pos k]
      rw [eD]
      have kc := m_comes (E := E) (c := c + 1) (v := v) (al := al) h (show at' < 40 by omega) (show C.2.2.1 2 < 20 by omega) n2 (r := P (C.2.2.1 0) - P (C.2.2.1 1))
      rw [m1] at kc
      have g63 : vu v 61 (.int (bI (decide (P (C.2.2.1 0) - P (C.2.2.1 1) < 0)))) 63 = .int cr := by rw [vu_ne (by decide)]; exact m5
      refine ⟨vu (vu v 61 (.int (bI (decide (P (C.2.2.1 0) - P (C.2.2.1 1) < 0))))) 63 (.int (cr + 2)), ai, lu al 58 (vp_updL P (C.2.2.1 2) (P (C.2.2.1 0) - P (C.2.2.1 1))), e257 (head (P (C.2.2.1 0)) (P (C.2.2.1 1)) _ _ (fun _ => rfl) (fun z => absurd h5 z) (fun _ => rfl) (fun z => absurd (by omega) z) rfl ?_), ⟨lu_at, by rw [lu_ne (by decide)]; exact m2, by rw [vu_ne (by decide), vu_ne (by decide)]; exact m3, by rw [vu_ne (by decide), vu_at]; rfl, vu_at⟩, fun q hq => by rw [vu_ne (by omega), vu_ne (by omega)], fun _ _ => rfl, fun q q1 q2 => lu_ne q1⟩
      rw [k, show nI 2 = (2 : Int32) from rfl] at d1 ⊢
      simp (disch := first | assumption | omega | decide | (simp only [List.length_cons, List.length_nil, Nat.reduceAdd, Nat.reduceLT]; done) | fail) only [r257_116_2, r257_191, r257_192, r257_193, r257_194, r257_197, r257_198, r257_199, r257_200, r257_203, r257_204, r257_206, r257_207, r257_210, r257_211, r257_213, r257_217, r257_218, r257_218i, r257_219, r257_222, r257_223, r257_224, r257_227, r257_228, r257_229, r257_230, mh_o h, mh_put h, gm_43, gm_63, pm_63, gI, hm_43 h, d1, g63, q257_214 kc h.ci, WPo_some, List.getElem?_cons_succ, List.getElem?_cons_zero, kil_n, kil_i, kil_a, kil_u, kil_l, Option.toList_some, Option.toList_none, List.cons_append, List.nil_append, List.set_cons_succ, List.set_cons_zero, addm1, Nat.reduceAdd, List.length_cons, List.length_nil, Nat.reduceLT, nI_clamp, nI_toInt, nI_leL, nI_Lle, nI_ltL, nI_Llt, nI_eqL, nI_Leq, nI_leE, nI_ltE, nI_eqE, nI_eqM, nI_add, nI_addL, nI_Ladd, nI_mulL, nI_Lmul, pk_mul, pk_sub, nI_subL, nI_Lsub, i2l_nI, Int.toNat_natCast, Nat.not_lt_zero, Nat.zero_le, ifT, ifF, not_true_eq_false, not_false_eq_true, if_true, if_false, or_self, and_self, true_and, and_true, or_true, true_or, false_or, or_false, false_and, and_false, show ¬ (2 : Int32) = 1 by decide]
      exact rfl
    · rw [if_neg (by omega), if_neg (by omega), if_pos k] at ha
      have n2 := d5 (by rw [k]; decide)
      have bx := s1 (C.2.2.1 0) (by omega)
      have bx' := bx
      unfold bw at bx'
      have ka := c_absL (E := E) (c := c + 1) (ah := mh E ah m ma v ai al) (x := P (C.2.2.1 0)) (by omega)
      obtain ⟨ai', fa, -, kf⟩ := m_fewest (E := E) (c := c) (v := v) (ai := ai) (al := al) h hG (V := (P (C.2.2.1 0)).toInt.natAbs) (by omega)
      have eD : doS G C (P, R, pn, up, at', cr) = ccl C (P, R, pn, up, at', cr) (P (C.2.2.1 0) * P (C.2.2.1 1)) (2 + nI (G (P (C.2.2.1 0)).toInt.natAbs)) := by unfold doS; rw [if_neg (by omega), if_neg (by omega), if_neg (by omega), if_pos k]
      rw [eD]
      have kc := m_comes (E := E) (c := c + 1) (v := vu v 63 (.int (cr + (2 + nI (G (P (C.2.2.1 0)).toInt.natAbs))))) (ai := ai') (al := al) h (show at' < 40 by omega) (show C.2.2.1 2 < 20 by omega) (by rw [fa 46 (by omega)]; exact n2) (r := P (C.2.2.1 0) * P (C.2.2.1 1))
      rw [m1] at kc
      simp only [nI_Ladd] at kc
      refine ⟨vu (vu v 63 (.int (cr + (2 + nI (G (P (C.2.2.1 0)).toInt.natAbs))))) 61 (.int (bI (decide (P (C.2.2.1 0) * P (C.2.2.1 1) < 0)))), ai', lu al 58 (vp_updL P (C.2.2.1 2) (P (C.2.2.1 0) * P (C.2.2.1 1))), e257 (head (P (C.2.2.1 0)) (P (C.2.2.1 1)) _ _ (fun _ => rfl) (fun z => absurd h5 z) (fun _ => rfl) (fun z => absurd (by omega) z) rfl ?_), ⟨lu_at, by rw [lu_ne (by decide)]; exact m2, by rw [vu_ne (by decide), vu_ne (by decide)]; exact m3, vu_at, by rw [vu_ne (by decide), vu_at]; rfl⟩, fun q hq => by rw [vu_ne (by omega), vu_ne (by omega)], fun q hq => fa q hq, fun q q1 q2 => lu_ne q1⟩
      rw [k, show nI 3 = (3 : Int32) from rfl]
      simp (disch := first | assumption | omega | decide | (simp only [List.length_cons, List.length_nil, Nat.reduceAdd, Nat.reduceLT]; done) | fail) only [r257_116_3, r257_231, r257_232, r257_232i, r257_233, r257_236, r257_237, r257_238, r257_245, r257_246, r257_247, r257_250, r257_251, r257_252, r257_253, r257_255, r257_259, r257_260, r257_261, r257_262, mh_o h, mh_put h, gm_63, pm_63, m5, q257_239 ka, q257_242 kf h.ci, q257_256 kc h.ci, WPo_some, List.getElem?_cons_succ, List.getElem?_cons_zero, kil_n, kil_i, kil_a, kil_u, kil_l, Option.toList_some, Option.toList_none, List.cons_append, List.nil_append, List.set_cons_succ, List.set_cons_zero, addm1, Nat.reduceAdd, List.length_cons, List.length_nil, Nat.reduceLT, nI_clamp, nI_toInt, nI_leL, nI_Lle, nI_ltL, nI_Llt, nI_eqL, nI_Leq, nI_leE, nI_ltE, nI_eqE, nI_eqM, nI_add, nI_addL, nI_Ladd, nI_mulL, nI_Lmul, pk_mul, pk_sub, nI_subL, nI_Lsub, i2l_nI, Int.toNat_natCast, Nat.not_lt_zero, Nat.zero_le, ifT, ifF, not_true_eq_false, not_false_eq_true, if_true, if_false, or_self, and_self, true_and, and_true, or_true, true_or, false_or, or_false, false_and, and_false]
      exact rfl
    · rw [if_neg (by omega), if_neg (by omega), if_neg (by omega), if_pos k] at ha
      have y0 : ¬ P (C.2.2.1 1) = 0 := fun z => by rw [if_pos z] at ha; exact absurd ha (by decide)
      have n2 := d5 (by rw [k]; decide)
      have n3 := d6 (by rw [k]; decide)
      obtain ⟨q1, q2, q3⟩ := bw_div (s1 (C.2.2.1 0) (by omega)) y0
      have q2' := q2
      unfold bw at q2'
      have ka := c_absL (E := E) (c := c + 1) (ah := mh E ah m ma v ai al) (x := P (C.2.2.1 0) / P (C.2.2.1 1)) (by omega)
      obtain ⟨ai', fa, -, kf⟩ := m_fewest (E := E) (c := c) (v := v) (ai := ai) (al := al) h hG (V := (P (C.2.2.1 0) / P (C.2.2.1 1)).toInt.natAbs) (by omega)
      have eD : doS G C (P, R, pn, up, at', cr) = (vp_updL (vp_updL P (C.2.2.1 2) (P (C.2.2.1 0) / P (C.2.2.1 1))) (C.2.2.1 3) (P (C.2.2.1 0) - P (C.2.2.1 0) / P (C.2.2.1 1) * P (C.2.2.1 1)), R, pn, decide (P (C.2.2.1 0) / P (C.2.2.1 1) < 0), at' + 1, cr + (3 + nI (G (P (C.2.2.1 0) / P (C.2.2.1 1)).toInt.natAbs))) := by
        unfold doS
        rw [if_neg (by omega), if_neg (by omega), if_neg (by omega), if_neg (by omega), if_pos k]
        rfl
      rw [eD]
      have kc := m_comes (E := E) (c := c + 1) (v := vu v 63 (.int (cr + (3 + nI (G (P (C.2.2.1 0) / P (C.2.2.1 1)).toInt.natAbs))))) (ai := ai') (al := al) h (show at' < 40 by omega) (show C.2.2.1 2 < 20 by omega) (by rw [fa 46 (by omega)]; exact n2) (r := P (C.2.2.1 0) / P (C.2.2.1 1))
      rw [m1] at kc
      simp only [nI_Ladd] at kc
      have f47 : ai' 47 at' = nI (C.2.2.1 3) := by rw [fa 47 (by omega)]; exact n3
      refine ⟨vu (vu v 63 (.int (cr + (3 + nI (G (P (C.2.2.1 0) / P (C.2.2.1 1)).toInt.natAbs))))) 61 (.int (bI (decide (P (C.2.2.1 0) / P (C.2.2.1 1) < 0)))), ai', lu al 58 (vp_updL (vp_updL P (C.2.2.1 2) (P (C.2.2.1 0) / P (C.2.2.1 1))) (C.2.2.1 3) (P (C.2.2.1 0) - P (C.2.2.1 0) / P (C.2.2.1 1) * P (C.2.2.1 1))), e257 (head (P (C.2.2.1 0)) (P (C.2.2.1 1)) _ _ (fun _ => rfl) (fun z => absurd h5 z) (fun _ => rfl) (fun z => absurd (by omega) z) rfl ?_), ⟨lu_at, by rw [lu_ne (by decide)]; exact m2, by rw [vu_ne (by decide), vu_ne (by decide)]; exact m3, vu_at, by rw [vu_ne (by decide), vu_at]⟩, fun q hq => by rw [vu_ne (by omega), vu_ne (by omega)], fun q hq => fa q hq, fun q q1 q2 => lu_ne q1⟩
      rw [k, show nI 4 = (4 : Int32) from rfl]
      simp (disch := first | assumption | omega | decide | (simp only [List.length_cons, List.length_nil, Nat.reduceAdd, Nat.reduceLT]; done) | fail) only [r257_116_4, r257_273 y0, r257_290 y0, r257_307 y0, r257_263, r257_264, r257_264i, r257_265, r257_268, r257_269, r257_270, r257_271, r257_280, r257_281, r257_282, r257_285, r257_286, r257_287, r257_288, r257_294, r257_295, r257_298, r257_299, r257_302, r257_303, r257_304, r257_305, r257_308, r257_309, r257_310, r257_311, r257_312, mh_o h, mh_put h, gm_63, gm_58, gm_47, pm_63, m5, gI, pL, hm_47 h, hm_58 h, sm_58 h, lu_at, lu_lu, f47, q257_274 ka, q257_277 kf h.ci, q257_291 kc h.ci, WPo_some, List.getElem?_cons_succ, List.getElem?_cons_zero, kil_n, kil_i, kil_a, kil_u, kil_l, Option.toList_some, Option.toList_none, List.cons_append, List.nil_append, List.set_cons_succ, List.set_cons_zero, addm1, Nat.reduceAdd, List.length_cons, List.length_nil, Nat.reduceLT, nI_clamp, nI_toInt, nI_leL, nI_Lle, nI_ltL, nI_Llt, nI_eqL, nI_Leq, nI_leE, nI_ltE, nI_eqE, nI_eqM, nI_add, nI_addL, nI_Ladd, nI_mulL, nI_Lmul, pk_mul, pk_sub, nI_subL, nI_Lsub, i2l_nI, Int.toNat_natCast, Nat.not_lt_zero, Nat.zero_le, ifT, ifF, not_true_eq_false, not_false_eq_true, if_true, if_false, or_self, and_self, true_and, and_true, or_true, true_or, false_or, or_false, false_and, and_false]
    · rw [if_neg (by omega), if_neg (by omega), if_neg (by omega), if_neg (by omega), if_pos k] at ha
      have p40 : ¬ pn = 40 := fun z => by rw [if_pos z] at ha; exact absurd ha (by decide)
      have eD : doS G C (P, R, pn, up, at', cr) = (P, vp_updL R pn (P (C.2.2.1 0)), pn + 1, up, at' + 1, cr + 1) := by
        unfold doS
        rw [if_neg (by omega), if_neg (by omega), if_neg (by omega), if_neg (by omega), if_neg (by omega), if_pos k]
      rw [eD]
      have g63 : vu v 62 (.int (nI (pn + 1))) 63 = .int cr := by rw [vu_ne (by decide)]; exact m5
      refine ⟨vu (vu v 62 (.int (nI (pn + 1)))) 63 (.int (cr + 1)), ai, lu al 59 (vp_updL R pn (P (C.2.2.1 0))), e257 (head (P (C.2.2.1 0)) 0 _ _ (fun _ => rfl) (fun z => absurd h5 z) (fun z => absurd z (by omega)) (fun _ => rfl) rfl ?_), ⟨by rw [lu_ne (by decide)]; exact m1, lu_at, by rw [vu_ne (by decide), vu_at], by rw [vu_ne (by decide), vu_ne (by decide)]; exact m4, vu_at⟩, fun q hq => by rw [vu_ne (by omega), vu_ne (by omega)], fun _ _ => rfl, fun q q1 q2 => lu_ne q2⟩
      rw [k, show nI 5 = (5 : Int32) from rfl]
      simp (disch := first | assumption | omega | decide | (simp only [List.length_cons, List.length_nil, Nat.reduceAdd, Nat.reduceLT]; done) | fail) only [r257_116_5, r257_313, r257_314, r257_317, r257_318, r257_321, r257_322, r257_323, r257_324, r257_324i, r257_325, r257_328, r257_329, r257_330, r257_333, r257_334, r257_334i, r257_335, r257_338, r257_339, r257_340, r257_343, r257_344, r257_345, r257_346, mh_o h, mh_put h, gm_59, gm_62, gm_63, pm_62, pm_63, pL, hm_59 h, sm_59 h, m2, m3, g63, WPo_some, List.getElem?_cons_succ, List.getElem?_cons_zero, kil_n, kil_i, kil_a, kil_u, kil_l, Option.toList_some, Option.toList_none, List.cons_append, List.nil_append, List.set_cons_succ, List.set_cons_zero, addm1, Nat.reduceAdd, List.length_cons, List.length_nil, Nat.reduceLT, nI_clamp, nI_toInt, nI_leL, nI_Lle, nI_ltL, nI_Llt, nI_eqL, nI_Leq, nI_leE, nI_ltE, nI_eqE, nI_eqM, nI_add, nI_addL, nI_Ladd, nI_mulL, nI_Lmul, pk_mul, pk_sub, nI_subL, nI_Lsub, i2l_nI, Int.toNat_natCast, Nat.not_lt_zero, Nat.zero_le, ifT, ifF, not_true_eq_false, not_false_eq_true, if_true, if_false, or_self, and_self, true_and, and_true, or_true, true_or, false_or, or_false, false_and, and_false]
  · have hk : C.1 = 6 ∨ C.1 = 7 := by omega
    have eD : doS G C (P, R, pn, up, at', cr) = ldS C (P, R, pn, up, at', cr) := by
      unfold doS
      rw [if_neg (by omega), if_neg (by omega), if_neg (by omega), if_neg (by omega), if_neg (by omega), if_neg (by omega)]
    rw [eD]
    have n0 := d7 hk
    unfold ldX at hl
    rw [Bool.or_eq_false_iff, decide_eq_false_iff_not, decide_eq_false_iff_not] at hl
    unfold ldS
    dsimp only
    by_cases hh : (C.2.1 = 1 ∧ up = false) ∨ (C.2.1 = 2 ∧ up = true)
    · rw [if_pos hh]
      by_cases k6 : C.1 = 6
      · refine ⟨vu v 63 (.int cr), ai, al, e257 (head 0 0 0 _ (fun z => absurd z h5) (fun _ => rfl) (fun z => absurd z (by omega)) (fun _ => rfl) (by rw [if_pos hh]) ?_), ⟨m1, m2, by rw [vu_ne (by decide)]; exact m3, by rw [vu_ne (by decide)]; exact m4, vu_at⟩, fun q hq => vu_ne (by omega), fun _ _ => rfl, fun _ _ _ => rfl⟩
        rw [k6, show nI 6 = (6 : Int32) from rfl]
        simp (disch := first | assumption | omega | decide | (simp only [List.length_cons, List.length_nil, Nat.reduceAdd, Nat.reduceLT]; done) | fail) only [r257_116_6, r257_347, r257_348, r257_348i, r257_349, r257_352, r257_354, r257_357, r257_358, r257_361, r257_362, r257_363, r257_366, r257_367, r257_368, r257_371, r257_373, r257_376, r257_377, r257_378, r257_381, r257_382, r257_383, r257_384, r257_387, r257_388, r257_389, r257_390, mh_o h, mh_put h, gm_63, pm_63, m5, Int32.add_zero, WPo_some, List.getElem?_cons_succ, List.getElem?_cons_zero, kil_n, kil_i, kil_a, kil_u, kil_l, Option.toList_some, Option.toList_none, List.cons_append, List.nil_append, List.set_cons_succ, List.set_cons_zero, addm1, Nat.reduceAdd, List.length_cons, List.length_nil, Nat.reduceLT, nI_clamp, nI_toInt, nI_leL, nI_Lle, nI_ltL, nI_Llt, nI_eqL, nI_Leq, nI_leE, nI_ltE, nI_eqE, nI_eqM, nI_add, nI_addL, nI_Ladd, nI_mulL, nI_Lmul, pk_mul, pk_sub, nI_subL, nI_Lsub, i2l_nI, Int.toNat_natCast, Nat.not_lt_zero, Nat.zero_le, ifT, ifF, not_true_eq_false, not_false_eq_true, if_true, if_false, or_self, and_self, true_and, and_true, or_true, true_or, false_or, or_false, false_and, and_false]
      · refine ⟨v, ai, al, e257 (head 0 0 0 _ (fun z => absurd z h5) (fun _ => rfl) (fun z => absurd z (by omega)) (fun _ => rfl) (by rw [if_pos hh]) ?_), ⟨m1, m2, m3, m4, m5⟩, fun q hq => rfl, fun _ _ => rfl, fun _ _ _ => rfl⟩
        rw [r257_116_d (by rw [nI_toInt (by omega)]; omega)]
        simp (disch := first | assumption | omega | decide | (simp only [List.length_cons, List.length_nil, Nat.reduceAdd, Nat.reduceLT]; done) | fail) only [r257_391, r257_393, r257_396, r257_397, r257_398, r257_401, r257_402, r257_403, r257_404, r257_407, r257_408, r257_409, r257_410, WPo_some, List.getElem?_cons_succ, List.getElem?_cons_zero, kil_n, kil_i, kil_a, kil_u, kil_l, Option.toList_some, Option.toList_none, List.cons_append, List.nil_append, List.set_cons_succ, List.set_cons_zero, addm1, Nat.reduceAdd, List.length_cons, List.length_nil, Nat.reduceLT, nI_clamp, nI_toInt, nI_leL, nI_Lle, nI_ltL, nI_Llt, nI_eqL, nI_Leq, nI_leE, nI_ltE, nI_eqE, nI_eqM, nI_add, nI_addL, nI_Ladd, nI_mulL, nI_Lmul, pk_mul, pk_sub, nI_subL, nI_Lsub, i2l_nI, Int.toNat_natCast, Nat.not_lt_zero, Nat.zero_le, ifT, ifF, not_true_eq_false, not_false_eq_true, if_true, if_false, or_self, and_self, true_and, and_true, or_true, true_or, false_or, or_false, false_and, and_false]
    · rw [if_neg hh]
      by_cases k6 : C.1 = 6
      · rw [if_pos k6]
        have le : C.2.2.1 0 ≤ at' := by have := fun z => hl.1 ⟨k6, z⟩; omega
        refine ⟨vu v 63 (.int (cr + nI (C.2.2.1 0))), ai, al, e257 (head 0 0 1 _ (fun z => absurd z h5) (fun _ => rfl) (fun z => absurd z (by omega)) (fun _ => rfl) (by rw [if_neg hh]) ?_), ⟨m1, m2, by rw [vu_ne (by decide)]; exact m3, by rw [vu_ne (by decide)]; exact m4, vu_at⟩, fun q hq => vu_ne (by omega), fun _ _ => rfl, fun _ _ _ => rfl⟩
        rw [k6, show nI 6 = (6 : Int32) from rfl]
        simp (disch := first | assumption | omega | decide | (simp only [List.length_cons, List.length_nil, Nat.reduceAdd, Nat.reduceLT]; done) | fail) only [r257_116_6, r257_347, r257_348, r257_348i, r257_349, r257_352, r257_354, r257_357, r257_358, r257_361, r257_362, r257_363, r257_366, r257_367, r257_368, r257_371, r257_373, r257_376, r257_377, r257_378, r257_381, r257_382, r257_383, r257_384, r257_387, r257_388, r257_389, r257_390, mh_o h, mh_put h, gm_44, gm_63, pm_63, gI, hm_44 h, n0, m5, pk_sub le, WPo_some, List.getElem?_cons_succ, List.getElem?_cons_zero, kil_n, kil_i, kil_a, kil_u, kil_l, Option.toList_some, Option.toList_none, List.cons_append, List.nil_append, List.set_cons_succ, List.set_cons_zero, addm1, Nat.reduceAdd, List.length_cons, List.length_nil, Nat.reduceLT, nI_clamp, nI_toInt, nI_leL, nI_Lle, nI_ltL, nI_Llt, nI_eqL, nI_Leq, nI_leE, nI_ltE, nI_eqE, nI_eqM, nI_add, nI_addL, nI_Ladd, nI_mulL, nI_Lmul, pk_mul, pk_sub, nI_subL, nI_Lsub, i2l_nI, Int.toNat_natCast, Nat.not_lt_zero, Nat.zero_le, ifT, ifF, not_true_eq_false, not_false_eq_true, if_true, if_false, or_self, and_self, true_and, and_true, or_true, true_or, false_or, or_false, false_and, and_false, show ¬ (1 : Int32) = 0 by decide]
      · rw [if_neg k6]
        refine ⟨v, ai, al, e257 (head 0 0 1 _ (fun z => absurd z h5) (fun _ => rfl) (fun z => absurd z (by omega)) (fun _ => rfl) (by rw [if_neg hh]) ?_), ⟨m1, m2, m3, m4, m5⟩, fun q hq => rfl, fun _ _ => rfl, fun _ _ _ => rfl⟩
        rw [r257_116_d (by rw [nI_toInt (by omega)]; omega)]
        simp (disch := first | assumption | omega | decide | (simp only [List.length_cons, List.length_nil, Nat.reduceAdd, Nat.reduceLT]; done) | fail) only [r257_391, r257_393, r257_396, r257_397, r257_398, r257_401, r257_402, r257_403, r257_404, r257_407, r257_408, r257_409, r257_410, mh_o h, gm_44, gI, hm_44 h, n0, WPo_some, List.getElem?_cons_succ, List.getElem?_cons_zero, kil_n, kil_i, kil_a, kil_u, kil_l, Option.toList_some, Option.toList_none, List.cons_append, List.nil_append, List.set_cons_succ, List.set_cons_zero, addm1, Nat.reduceAdd, List.length_cons, List.length_nil, Nat.reduceLT, nI_clamp, nI_toInt, nI_leL, nI_Lle, nI_ltL, nI_Llt, nI_eqL, nI_Leq, nI_leE, nI_ltE, nI_eqE, nI_eqM, nI_add, nI_addL, nI_Ladd, nI_mulL, nI_Lmul, pk_mul, pk_sub, nI_subL, nI_Lsub, i2l_nI, Int.toNat_natCast, Nat.not_lt_zero, Nat.zero_le, ifT, ifF, not_true_eq_false, not_false_eq_true, if_true, if_false, or_self, and_self, true_and, and_true, or_true, true_or, false_or, or_false, false_and, and_false, show ¬ (1 : Int32) = 0 by decide]
end MMD

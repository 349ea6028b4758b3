/-! Engines of the model: set, whole -/
section SEM4
variable {E : aEnv} {c m : Nat} {ah : aHp} {ma : Nat → Nat} {v : Nat → Value} {ai : Nat → Nat → Int32} {al : Nat → Nat → Int64} {en : Nat} {ax wh : Nat → Nat} {rx : Nat → Nat → Nat} {fg : Nat → Nat → Nat → Nat} {tu ms : Nat → Nat} {mq : Nat → Nat → Nat → Nat} {sr : Nat → Int32} {mn : Nat → Nat} {tn : Nat → Nat → Int64}
theorem m_set_no (h : MO E ah m ma) (hT : TM ai al sr mn tn) (hm : enM v ai en ax wh rx fg tu ms mq) {e tray n : Int32} (hs : ¬ seSt en ax sr mn tn e tray n = 0) : EV E (c + 2) 218 [.ref m, .int e, .int tray, .int n] (mh E ah m ma v ai al) (some (.int 0)) (mh E ah m ma (vu (vu v 1 (.int 0)) 0 (.int (seSt en ax sr mn tn e tray n))) ai al) := by
  refine e218 ?_
  have h4 := hm.1
  have hv' : vu (vu v 1 (.int 0)) 0 (.int 0) 5 = .int (nI en) := hm.2.1
  by_cases h1 : 0 ≤ tray.toInt ∧ tray.toInt ≤ 3
  · obtain ⟨j, hj, rfl⟩ := i32_nat (n := 4) h1.1 (by omega)
    have ej := nI_toInt (show j < 2 ^ 31 by omega)
    obtain ⟨m1, m2, m3⟩ := hT j hj
    by_cases h2 : 0 ≤ e.toInt ∧ e.toInt < en
    · obtain ⟨i, hi, rfl⟩ := i32_nat (n := en) h2.1 h2.2
      obtain ⟨⟨q1, b1, b2, b3, b4⟩, f1, t1, d1⟩ := hm.2.2.1 i hi
      have eax : (nI (ax i)).toInt = (ax i : Int) := nI_toInt (by omega)
      have e0 : seSt en ax sr mn tn (nI i) (nI j) n = if ¬ (if sr j = -1 then (3 : Int32) else if ¬ (1 ≤ n.toInt ∧ n.toInt ≤ ax i) then 5 else if mn j < n.toInt then 4 else 0) = 0 then (if sr j = -1 then 3 else if ¬ (1 ≤ n.toInt ∧ n.toInt ≤ ax i) then 5 else if mn j < n.toInt then 4 else 0) else if ¬ (∀ k, k < n.toInt.toNat → -1000000000 ≤ tn j k ∧ tn j k ≤ 1000000000) then 5 else 0 := by
        unfold seSt
        rw [nI_toInt (show i < 2 ^ 31 by omega), Int.toNat_natCast, etSt_i hi h4 hj, ej, Int.toNat_natCast]
      rw [e0] at hs ⊢
      by_cases h3 : sr j = -1
      · rw [if_pos h3] at m2
        rw [if_pos h3, if_pos (by decide)]
        simp (disch := first | assumption | omega | decide | (simp only [List.length_cons, List.length_nil, Nat.reduceAdd, Nat.reduceLT]; done) | fail) only [r218_0, r218_1, r218_2, r218_5, r218_6, r218_7, r218_10, r218_11, r218_14, r218_15, r218_16, r218_19, r218_20, r218_24 (x := 0) (Or.inl rfl), r218_24 (x := 1) (Or.inr rfl), r218_24 (b2i_or _), r218_25, r218_26, r218_30, r218_33, r218_34, r218_38 (x := 0) (Or.inl rfl), r218_38 (x := 1) (Or.inr rfl), r218_38 (b2i_or _), r218_39, r218_40, r218_43, r218_44, r218_45, r218_48, r218_49, r218_53 (x := 0) (Or.inl rfl), r218_53 (x := 1) (Or.inr rfl), r218_53 (b2i_or _), mh_o h, mh_put h, pm_1, pm_0, gm_3, WPo_some, List.getElem?_cons_succ, List.getElem?_cons_zero, kil_n, kil_i, kil_a, kil_u, kil_l, Option.toList_some, Option.toList_none, List.cons_append, List.nil_append, List.set_cons_succ, List.set_cons_zero, addm1, Nat.reduceAdd, List.length_cons, List.length_nil, Nat.reduceLT, q218_27 (m_isEngine h hv' h4) h.ci, q218_50 (m_no h) h.ci, h1, h2, h3, b2i_eq0, not_true_eq_false, not_false_eq_true, if_true, if_false, or_self, and_self, true_and, and_true, or_true, true_or, false_or, or_false, false_and, and_false, gI, hm_3 h, m2.1, nI_clamp, nI_toInt, nI_leL, nI_Lle, nI_ltL, nI_Llt, nI_eqL, nI_Leq, nI_leE, nI_ltE, nI_eqE, nI_eqM, nI_add, nI_addL, nI_Ladd, nI_mulL, nI_Lmul, pk_mul, pk_sub, nI_subL, nI_Lsub, i2l_nI, Int.toNat_natCast, Nat.not_lt_zero, Nat.zero_le, ifT, ifF, vu_vu, show ¬ (0 : Int32) ≤ -1 by decide]
      · rw [if_neg h3] at m2 hs ⊢
        by_cases h5 : 1 ≤ n.toInt ∧ n.toInt ≤ ax i
        · rw [if_neg (not_not_intro h5)] at hs ⊢
          obtain ⟨k, hk, rfl⟩ := i32_nat (x := n) (n := ax i + 1) (by omega) (by omega)
          have ek := nI_toInt (show k < 2 ^ 31 by omega)
          have h5' := h5
          rw [ek] at h5' hs ⊢
          by_cases h6 : mn j < k
          · rw [if_pos (show (mn j : Int) < (k : Int) by omega), if_pos (by decide)]
            simp (disch := first | assumption | omega | decide | (simp only [List.length_cons, List.length_nil, Nat.reduceAdd, Nat.reduceLT]; done) | fail) only [r218_0, r218_1, r218_2, r218_5, r218_6, r218_7, r218_10, r218_11, r218_14, r218_15, r218_16, r218_19, r218_20, r218_24 (x := 0) (Or.inl rfl), r218_24 (x := 1) (Or.inr rfl), r218_24 (b2i_or _), r218_25, r218_26, r218_30, r218_33, r218_34, r218_38 (x := 0) (Or.inl rfl), r218_38 (x := 1) (Or.inr rfl), r218_38 (b2i_or _), r218_39, r218_40, r218_43, r218_44, r218_45, r218_48, r218_49, r218_53 (x := 0) (Or.inl rfl), r218_53 (x := 1) (Or.inr rfl), r218_53 (b2i_or _), r218_54, r218_55, r218_56, r218_57, r218_58, r218_61, r218_62, r218_63, r218_67, r218_70, r218_71, r218_75 (x := 0) (Or.inl rfl), r218_75 (x := 1) (Or.inr rfl), r218_75 (b2i_or _), r218_76, r218_77, r218_80, r218_81, r218_82, r218_83, r218_86, r218_87, r218_91 (x := 0) (Or.inl rfl), r218_91 (x := 1) (Or.inr rfl), r218_91 (b2i_or _), mh_o h, mh_put h, pm_1, pm_0, gm_3, gm_6, WPo_some, List.getElem?_cons_succ, List.getElem?_cons_zero, kil_n, kil_i, kil_a, kil_u, kil_l, Option.toList_some, Option.toList_none, List.cons_append, List.nil_append, List.set_cons_succ, List.set_cons_zero, addm1, Nat.reduceAdd, List.length_cons, List.length_nil, Nat.reduceLT, q218_27 (m_isEngine h hv' h4) h.ci, q218_64 m_isIn, q218_88 (m_no h) h.ci, h1, h2, h3, h5, h5', b2i_eq0, not_true_eq_false, not_false_eq_true, if_true, if_false, or_self, and_self, true_and, and_true, or_true, true_or, false_or, or_false, false_and, and_false, gI, hm_3 h, hm_6 h, b2, eax, ek, m2.1, nI_clamp, nI_toInt, nI_leL, nI_Lle, nI_ltL, nI_Llt, nI_eqL, nI_Leq, nI_leE, nI_ltE, nI_eqE, nI_eqM, nI_add, nI_addL, nI_Ladd, nI_mulL, nI_Lmul, pk_mul, pk_sub, nI_subL, nI_Lsub, i2l_nI, Int.toNat_natCast, Nat.not_lt_zero, Nat.zero_le, ifT, ifF, i64_lt, i64_le, i2l_toInt, Int64.reduceToInt, vu_vu]
          · rw [if_neg (show ¬ (mn j : Int) < (k : Int) by omega), if_neg (by decide), Int.toNat_natCast] at hs ⊢
            generalize hy0 : (if ¬ (∀ q, q < k → -1000000000 ≤ tn j q ∧ tn j q ≤ 1000000000) then (5 : Int32) else 0) = y0 at hs ⊢
            simp (disch := first | assumption | omega | decide | (simp only [List.length_cons, List.length_nil, Nat.reduceAdd, Nat.reduceLT]; done) | fail) only [r218_0, r218_1, r218_2, r218_5, r218_6, r218_7, r218_10, r218_11, r218_14, r218_15, r218_16, r218_19, r218_20, r218_24 (x := 0) (Or.inl rfl), r218_24 (x := 1) (Or.inr rfl), r218_24 (b2i_or _), r218_25, r218_26, r218_30, r218_33, r218_34, r218_38 (x := 0) (Or.inl rfl), r218_38 (x := 1) (Or.inr rfl), r218_38 (b2i_or _), r218_39, r218_40, r218_43, r218_44, r218_45, r218_48, r218_49, r218_53 (x := 0) (Or.inl rfl), r218_53 (x := 1) (Or.inr rfl), r218_53 (b2i_or _), r218_54, r218_55, r218_56, r218_57, r218_58, r218_61, r218_62, r218_63, r218_67, r218_70, r218_71, r218_75 (x := 0) (Or.inl rfl), r218_75 (x := 1) (Or.inr rfl), r218_75 (b2i_or _), r218_76, r218_77, r218_80, r218_81, r218_82, r218_83, r218_86, r218_87, r218_91 (x := 0) (Or.inl rfl), r218_91 (x := 1) (Or.inr rfl), r218_91 (b2i_or _), r218_92, r218_93, mh_o h, mh_put h, pm_1, pm_0, gm_3, gm_6, WPo_some, List.getElem?_cons_succ, List.getElem?_cons_zero, kil_n, kil_i, kil_a, kil_u, kil_l, Option.toList_some, Option.toList_none, List.cons_append, List.nil_append, List.set_cons_succ, List.set_cons_zero, addm1, Nat.reduceAdd, List.length_cons, List.length_nil, Nat.reduceLT, q218_27 (m_isEngine h hv' h4) h.ci, q218_64 m_isIn, h1, h2, h3, h5, h5', b2i_eq0, not_true_eq_false, not_false_eq_true, if_true, if_false, or_self, and_self, true_and, and_true, or_true, true_or, false_or, or_false, false_and, and_false, gI, hm_3 h, hm_6 h, b2, eax, ek, m2.1, nI_clamp, nI_toInt, nI_leL, nI_Lle, nI_ltL, nI_Llt, nI_eqL, nI_Leq, nI_leE, nI_ltE, nI_eqE, nI_eqM, nI_add, nI_addL, nI_Ladd, nI_mulL, nI_Lmul, pk_mul, pk_sub, nI_subL, nI_Lsub, i2l_nI, Int.toNat_natCast, Nat.not_lt_zero, Nat.zero_le, ifT, ifF, i64_lt, i64_le, i2l_toInt, Int64.reduceToInt, vu_vu]
            refine l_smL h hT hj (show k ≤ mn j by omega) (by omega) (fun y => ?_) (fun y => ?_) k 0 (by omega) (fun q hq => absurd hq (by omega))
            · rw [if_neg (not_not_intro y)] at hy0
              exact absurd hy0.symm hs
            · rw [if_pos y] at hy0
              rw [← hy0, vu_vu]
              exact ⟨rfl, rfl⟩
        · rw [if_pos h5, if_pos (by decide)]
          simp (disch := first | assumption | omega | decide | (simp only [List.length_cons, List.length_nil, Nat.reduceAdd, Nat.reduceLT]; done) | fail) only [r218_0, r218_1, r218_2, r218_5, r218_6, r218_7, r218_10, r218_11, r218_14, r218_15, r218_16, r218_19, r218_20, r218_24 (x := 0) (Or.inl rfl), r218_24 (x := 1) (Or.inr rfl), r218_24 (b2i_or _), r218_25, r218_26, r218_30, r218_33, r218_34, r218_38 (x := 0) (Or.inl rfl), r218_38 (x := 1) (Or.inr rfl), r218_38 (b2i_or _), r218_39, r218_40, r218_43, r218_44, r218_45, r218_48, r218_49, r218_53 (x := 0) (Or.inl rfl), r218_53 (x := 1) (Or.inr rfl), r218_53 (b2i_or _), r218_54, r218_55, r218_56, r218_57, r218_58, r218_61, r218_62, r218_63, r218_67, r218_70, r218_71, r218_75 (x := 0) (Or.inl rfl), r218_75 (x := 1) (Or.inr rfl), r218_75 (b2i_or _), mh_o h, mh_put h, pm_1, pm_0, gm_3, gm_6, WPo_some, List.getElem?_cons_succ, List.getElem?_cons_zero, kil_n, kil_i, kil_a, kil_u, kil_l, Option.toList_some, Option.toList_none, List.cons_append, List.nil_append, List.set_cons_succ, List.set_cons_zero, addm1, Nat.reduceAdd, List.length_cons, List.length_nil, Nat.reduceLT, q218_27 (m_isEngine h hv' h4) h.ci, q218_64 m_isIn, q218_72 (m_no h) h.ci, h1, h2, h3, h5, b2i_eq0, not_true_eq_false, not_false_eq_true, if_true, if_false, or_self, and_self, true_and, and_true, or_true, true_or, false_or, or_false, false_and, and_false, gI, hm_3 h, hm_6 h, b2, eax, m2.1, nI_clamp, nI_toInt, nI_leL, nI_Lle, nI_ltL, nI_Llt, nI_eqL, nI_Leq, nI_leE, nI_ltE, nI_eqE, nI_eqM, nI_add, nI_addL, nI_Ladd, nI_mulL, nI_Lmul, pk_mul, pk_sub, nI_subL, nI_Lsub, i2l_nI, Int.toNat_natCast, Nat.not_lt_zero, Nat.zero_le, ifT, ifF, i64_lt, i64_le, i2l_toInt, Int64.reduceToInt, vu_vu]
    · have e0 : seSt en ax sr mn tn e (nI j) n = 2 := by
        have e1 : etSt en sr mn e (nI j) n (ax e.toInt.toNat) = 2 := by
          unfold etSt
          rw [if_neg (not_not_intro h1), if_pos h2]
        unfold seSt
        rw [e1, if_pos (by decide)]
      rw [e0]
      simp (disch := first | assumption | omega | decide | (simp only [List.length_cons, List.length_nil, Nat.reduceAdd, Nat.reduceLT]; done) | fail) only [r218_0, r218_1, r218_2, r218_5, r218_6, r218_7, r218_10, r218_11, r218_14, r218_15, r218_16, r218_19, r218_20, r218_24 (x := 0) (Or.inl rfl), r218_24 (x := 1) (Or.inr rfl), r218_24 (b2i_or _), r218_25, r218_26, r218_30, r218_33, r218_34, r218_38 (x := 0) (Or.inl rfl), r218_38 (x := 1) (Or.inr rfl), r218_38 (b2i_or _), mh_o h, mh_put h, pm_1, pm_0, gm_3, WPo_some, List.getElem?_cons_succ, List.getElem?_cons_zero, kil_n, kil_i, kil_a, kil_u, kil_l, Option.toList_some, Option.toList_none, List.cons_append, List.nil_append, List.set_cons_succ, List.set_cons_zero, addm1, Nat.reduceAdd, List.length_cons, List.length_nil, Nat.reduceLT, q218_27 (m_isEngine h hv' h4) h.ci, q218_35 (m_no h) h.ci, h1, h2, b2i_eq0, not_true_eq_false, not_false_eq_true, if_true, if_false, or_self, and_self, true_and, and_true, or_true, true_or, false_or, or_false, false_and, and_false, nI_clamp, nI_toInt, nI_leL, nI_Lle, nI_ltL, nI_Llt, nI_eqL, nI_Leq, nI_leE, nI_ltE, nI_eqE, nI_eqM, nI_add, nI_addL, nI_Ladd, nI_mulL, nI_Lmul, pk_mul, pk_sub, nI_subL, nI_Lsub, i2l_nI, Int.toNat_natCast, Nat.not_lt_zero, Nat.zero_le, ifT, ifF, vu_vu]
  · have e0 : seSt en ax sr mn tn e tray n = 1 := by
      have e1 : etSt en sr mn e tray n (ax e.toInt.toNat) = 1 := if_pos h1
      unfold seSt
      rw [e1, if_pos (by decide)]
    rw [e0]
    by_cases h2 : tray < 0
    · simp (disch := first | assumption | omega | decide | (simp only [List.length_cons, List.length_nil, Nat.reduceAdd, Nat.reduceLT]; done) | fail) only [r218_0, r218_1, r218_2, r218_5, r218_6, r218_7, r218_10, r218_11, r218_14, r218_15, r218_16, r218_19, r218_20, r218_24 (x := 0) (Or.inl rfl), r218_24 (x := 1) (Or.inr rfl), r218_24 (b2i_or _), mh_o h, mh_put h, pm_1, pm_0, WPo_some, List.getElem?_cons_succ, List.getElem?_cons_zero, kil_n, kil_i, kil_a, kil_u, kil_l, Option.toList_some, Option.toList_none, List.cons_append, List.nil_append, List.set_cons_succ, List.set_cons_zero, addm1, Nat.reduceAdd, List.length_cons, List.length_nil, Nat.reduceLT, q218_21 (m_no h) h.ci, h2, not_true_eq_false, not_false_eq_true, if_true, if_false, or_self, and_self, true_and, and_true, or_true, true_or, false_or, or_false, false_and, and_false, vu_vu]
    · have h3 : ¬ tray < 4 := by
        simp only [i32_lt, i32_le, i64_lt, i64_le, i2l_toInt, Int32.reduceToInt, Int64.reduceToInt] at h2 ⊢
        omega
      simp (disch := first | assumption | omega | decide | (simp only [List.length_cons, List.length_nil, Nat.reduceAdd, Nat.reduceLT]; done) | fail) only [r218_0, r218_1, r218_2, r218_5, r218_6, r218_7, r218_10, r218_11, r218_14, r218_15, r218_16, r218_19, r218_20, r218_24 (x := 0) (Or.inl rfl), r218_24 (x := 1) (Or.inr rfl), r218_24 (b2i_or _), mh_o h, mh_put h, pm_1, pm_0, WPo_some, List.getElem?_cons_succ, List.getElem?_cons_zero, kil_n, kil_i, kil_a, kil_u, kil_l, Option.toList_some, Option.toList_none, List.cons_append, List.nil_append, List.set_cons_succ, List.set_cons_zero, addm1, Nat.reduceAdd, List.length_cons, List.length_nil, Nat.reduceLT, q218_21 (m_no h) h.ci, h2, h3, not_true_eq_false, not_false_eq_true, if_true, if_false, or_self, and_self, true_and, and_true, or_true, true_or, false_or, or_false, false_and, and_false, vu_vu]
theorem m_set_ok (h : MO E ah m ma) (hT : TM ai al sr mn tn) (hm : enM v ai en ax wh rx fg tu ms mq) {i j k : Nat} (hi : i < en) (hj : j < 4) (hne : ¬ sr j = -1) (hk : 1 ≤ k ∧ k ≤ ax i ∧ k ≤ mn j) (hr : ∀ q, q < k → -1000000000 ≤ tn j q ∧ tn j q ≤ 1000000000) : ∃ ai' D, EV E (c + 3) 218 [.ref m, .int (nI i), .int (nI j), .int (nI k)] (mh E ah m ma v ai al) (some (.int 1)) (mh E ah m ma (vu (vu v 1 (.int 0)) 0 (.int 0)) ai' (lu al 26 D)) ∧ enM (vu (vu v 1 (.int 0)) 0 (.int 0)) ai' en ax wh rx (fnu fg i (fun x w => dgt (sV k (tn j) x) (rx i) w)) (fnu tu i 0) ms mq ∧ ∀ q, ¬ (q = 8 ∨ q = 10) → ai' q = ai q := by
  have h4 := hm.1
  have hv' : vu (vu v 1 (.int 0)) 0 (.int 0) 5 = .int (nI en) := hm.2.1
  obtain ⟨hq, f1, t1, d1⟩ := hm.2.2.1 i hi
  have hq0 := hq
  obtain ⟨q1, b1, b2, b3, b4⟩ := hq0
  obtain ⟨m1, m2, m3⟩ := hT j hj
  rw [if_neg hne] at m2
  have hb : bdN k 1000000000 (tn j) := fun q hq => by
    have h1 := hr q hq
    rw [i64_le, i64_le] at h1
    have e1 : (-1000000000 : Int64).toInt = -1000000000 := rfl
    have e2 : (1000000000 : Int64).toInt = 1000000000 := rfl
    omega
  have hb2 := bkD_bd hk.1 (show k ≤ 7 by omega) hb
  obtain ⟨F', g1, g2, g3⟩ := l_smX (c := c + 2) (v := vu (vu v 1 (.int 0)) 0 (.int 0)) (al := al) h hq hk.2.1 (V := sV k (tn j)) (D := bkD k (ovr (al 26) 0 k (tn j))) (fun x hx => by
    unfold sV
    by_cases z : x < k
    · rw [if_pos z, if_pos z, bkD_eq hk.1 (D' := tn j) (fun i hi => ovr0_in hi) x z]
    · rw [if_neg z, if_neg z]) (fun x hx => by
    unfold sV
    by_cases z : x < k
    · rw [if_pos z]
      have := hb2 x z
      omega
    · rw [if_neg z]
      omega) (l2 := some (.int (nI j))) (ax i) 0 (ai 10) (by omega) (fun y w hy => absurd hy (by omega))
  rw [iu_self] at g3
  refine ⟨iu (iu ai 10 F') 8 (upd (ai 8) i 0), bkD k (ovr (al 26) 0 k (tn j)), e218 ?_, ?_, fun q hq => by rw [iu_ne (by omega), iu_ne (by omega)]⟩
  · have ej := nI_toInt (show j < 2 ^ 31 by omega)
    have ei := nI_toInt (show i < 2 ^ 31 by omega)
    have ek := nI_toInt (show k < 2 ^ 31 by omega)
    have eax : (nI (ax i)).toInt = (ax i : Int) := nI_toInt (by omega)
    simp (disch := first | assumption | omega | decide | (simp only [List.length_cons, List.length_nil, Nat.reduceAdd, Nat.reduceLT]; done) | fail) only [r218_0, r218_1, r218_2, r218_5, r218_6, r218_7, r218_10, r218_11, r218_14, r218_15, r218_16, r218_19, r218_20, r218_24 (x := 0) (Or.inl rfl), r218_24 (x := 1) (Or.inr rfl), r218_24 (b2i_or _), r218_25, r218_26, r218_30, r218_33, r218_34, r218_38 (x := 0) (Or.inl rfl), r218_38 (x := 1) (Or.inr rfl), r218_38 (b2i_or _), r218_39, r218_40, r218_43, r218_44, r218_45, r218_48, r218_49, r218_53 (x := 0) (Or.inl rfl), r218_53 (x := 1) (Or.inr rfl), r218_53 (b2i_or _), r218_54, r218_55, r218_56, r218_57, r218_58, r218_61, r218_62, r218_63, r218_67, r218_70, r218_71, r218_75 (x := 0) (Or.inl rfl), r218_75 (x := 1) (Or.inr rfl), r218_75 (b2i_or _), r218_76, r218_77, r218_80, r218_81, r218_82, r218_83, r218_86, r218_87, r218_91 (x := 0) (Or.inl rfl), r218_91 (x := 1) (Or.inr rfl), r218_91 (b2i_or _), r218_92, r218_93, mh_o h, mh_put h, pm_1, pm_0, gm_3, gm_6, WPo_some, List.getElem?_cons_succ, List.getElem?_cons_zero, kil_n, kil_i, kil_a, kil_u, kil_l, Option.toList_some, Option.toList_none, List.cons_append, List.nil_append, List.set_cons_succ, List.set_cons_zero, addm1, Nat.reduceAdd, List.length_cons, List.length_nil, Nat.reduceLT, q218_27 (m_isEngine h hv' h4) h.ci, q218_64 m_isIn, hne, b2i_eq0, not_true_eq_false, not_false_eq_true, if_true, if_false, or_self, and_self, true_and, and_true, or_true, true_or, false_or, or_false, false_and, and_false, gI, hm_3 h, hm_6 h, b2, eax, ei, ej, ek, m2.1, nI_clamp, nI_toInt, nI_leL, nI_Lle, nI_ltL, nI_Llt, nI_eqL, nI_Leq, nI_leE, nI_ltE, nI_eqE, nI_eqM, nI_add, nI_addL, nI_Ladd, nI_mulL, nI_Lmul, pk_mul, pk_sub, nI_subL, nI_Lsub, i2l_nI, Int.toNat_natCast, Nat.not_lt_zero, Nat.zero_le, ifT, ifF, i64_lt, i64_le, i2l_toInt, Int64.reduceToInt, show (0 : Int) ≤ (i : Int) ∧ (i : Int) < (en : Int) by omega, show (1 : Int) ≤ (k : Int) ∧ (k : Int) ≤ (ax i : Int) by omega]
    refine l_smL h hT hj hk.2.2 (by omega) (fun y => ?_) (fun y => absurd hr y) k 0 (by omega) (fun q hq => absurd hq (by omega))
    simp (disch := first | assumption | omega | decide | (simp only [List.length_cons, List.length_nil, Nat.reduceAdd, Nat.reduceLT]; done) | fail) only [r218_132, r218_133, WPo_some, List.getElem?_cons_succ, List.getElem?_cons_zero, kil_n, kil_i, kil_a, kil_u, kil_l, Option.toList_some, Option.toList_none, List.cons_append, List.nil_append, List.set_cons_succ, List.set_cons_zero, addm1, Nat.reduceAdd, List.length_cons, List.length_nil, Nat.reduceLT]
    have l := l_smC (c := c + 2) (v := vu (vu v 1 (.int 0)) 0 (.int 0)) (ai := ai) (al := al) (sr := sr) (mn := mn) (tn := tn) h hj hk.2.2 (show k ≤ 7 by omega) (l1 := some (.int (nI i))) (l5 := none) (l6 := none) (l7 := none) (l8 := none) (l9 := none) (N0 := al 26) (Q := fun r1 x1 => r1 = some (.int 1) ∧ x1 = mh E ah m ma (vu (vu v 1 (.int 0)) 0 (.int 0)) (iu (iu ai 10 F') 8 (upd (ai 8) i 0)) (lu al 26 (bkD k (ovr (al 26) 0 k (tn j))))) (by
      simp (disch := first | assumption | omega | decide | (simp only [List.length_cons, List.length_nil, Nat.reduceAdd, Nat.reduceLT]; done) | fail) only [r218_161, r218_162, q218_163 (m_back h (show k ≤ 7 by omega) hk.1) h.ci, WPo_some, List.getElem?_cons_succ, List.getElem?_cons_zero, kil_n, kil_i, kil_a, kil_u, kil_l, Option.toList_some, Option.toList_none, List.cons_append, List.nil_append, List.set_cons_succ, List.set_cons_zero, addm1, Nat.reduceAdd, List.length_cons, List.length_nil, Nat.reduceLT, r218_166, r218_167]
      exact g3 _ _ _ _ _) k 0 (by omega) hT
    rw [ovr_0, lu_self] at l
    exact l
  · have := hm.up (v' := vu (vu v 1 (.int 0)) 0 (.int 0)) (ai' := iu (iu ai 10 F') 8 (upd (ai 8) i 0)) (fg' := fun x w => dgt (sV k (tn j) x) (rx i) w) (tu' := 0) hi rfl (fun k hk => by rw [iu_ne (by omega), iu_ne (by omega)]) (fun e he he4 => ⟨⟨by rw [iu_at, upd_ne he], by rw [iu_ne (by decide), iu_ne (by decide)]⟩, fun p hp => by rw [iu_ne (by decide), iu_at]; exact g2 _ (by omega), fun k j h1 h2 h3 => by rw [iu_ne (by omega), iu_ne (by omega)]⟩) (by
      intro x w hx hw
      rw [iu_ne (by decide), iu_at]
      exact ⟨g1 x w hx hw, dgt_lt (by have := (b4 w hw).2; omega)⟩) ⟨by rw [iu_at, upd_at]; rfl, by omega⟩ (EM_fr d1 (fun k h1 h2 => by rw [iu_ne (by omega), iu_ne (by omega)]))
    rw [fnu_self, fnu_self] at this
    exact this
end SEM4

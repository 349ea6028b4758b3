/-! Engines of the model: turn, sheet -/
section TSM
variable {E : aEnv} {c m : Nat} {ah : aHp} {ma : Nat → Nat} {v : Nat → Value} {ai : Nat → Nat → Int32} {al : Nat → Nat → Int64} {en : Nat} {ax wh : Nat → Nat} {rx : Nat → Nat → Nat} {fg : Nat → Nat → Nat → Nat} {tu ms : Nat → Nat} {mq : Nat → Nat → Nat → Nat} {sr : Nat → Int32} {mn : Nat → Nat} {tn : Nat → Nat → Int64}
theorem cn_last {axx n t k : Nat} {mq : Nat → Nat → Nat} (ha : 2 ≤ axx) (h : ∀ i, i < n → mq 1 i + 1 < axx) {w : Nat} : ∀ j, j ≤ n → cn mq t (axx - 1) w k j = 0
  | 0, _ => rfl
  | j + 1, hj => by
    have := h j (by omega)
    rw [cn, cn_last ha h j (by omega), if_neg (by omega)]
theorem EQ_fr {ai' : Nat → Nat → Int32} {e axx whh : Nat} {r : Nat → Nat} (h : EQ ai e axx whh r) (hk : ∀ k, k = 6 ∨ k = 7 ∨ k = 9 → ai' k = ai k) : EQ ai' e axx whh r := by
  obtain ⟨a1, a2, a3, a4, a5⟩ := h
  refine ⟨a1, a2, ?_, ?_, ?_⟩
  · rw [hk 6 (by omega)]; exact a3
  · rw [hk 7 (by omega)]; exact a4
  · rw [hk 9 (by omega)]; exact a5
theorem EM_fr {ai' : Nat → Nat → Int32} {e axx whh n : Nat} {r : Nat → Nat} {mq : Nat → Nat → Nat} (h : EM ai e axx whh r mq n) (hk : ∀ k, 12 ≤ k → k ≤ 16 → ai' k = ai k) : EM ai' e axx whh r mq n := by
  unfold EM
  rw [hk 12 (by omega) (by omega), hk 13 (by omega) (by omega), hk 14 (by omega) (by omega), hk 15 (by omega) (by omega), hk 16 (by omega) (by omega)]
  exact h
/-- a turn that counts -/
theorem m_turned (h : MO E ah m ma) {e t axx whh n : Nat} {r : Nat → Nat} {mq : Nat → Nat → Nat} {fg : Nat → Nat → Nat} (hq : EQ ai e axx whh r) (hM : EM ai e axx whh r mq n) (hF : EF (ai 10) e axx whh r fg) (ht : t + 1 ≤ 1000) : ∃ F' Z', EF F' e axx whh r (trn axx r mq n (t + 1) fg) ∧ same84 (ai 10) F' e ∧ EV E (c + 2) 223 [.ref m, .int (nI e), .int (nI (t + 1)), .int 0] (mh E ah m ma v (iu ai 8 (upd (ai 8) e (nI (t + 1)))) al) none (mh E ah m ma v (iu (iu (iu ai 8 (upd (ai 8) e (nI (t + 1)))) 10 F') 17 Z') al) := by
  have hq2 := EQ_fr (ai' := iu ai 8 (upd (ai 8) e (nI (t + 1)))) hq (fun k hk => iu_ne (by omega))
  have hM2 := EM_fr (ai' := iu ai 8 (upd (ai 8) e (nI (t + 1)))) hM (fun k h1 h2 => iu_ne (by omega))
  have b := hq.2.1
  obtain ⟨F', Z', a1, a2, a3⟩ := m_turnOne (v := v) (al := al) h hq2 (MC_of (c := c) h hq2 hM2 ht) (fun w => cn_last b.1 (fun i hi => (hM.2.2 i hi).2.2.1) n (Nat.le_refl _)) (fg := fg) (by rw [iu_ne (by decide)]; exact hF)
  rw [iu_ne (by decide)] at a2
  exact ⟨F', Z', a1, a2, a3⟩
theorem l_mT (h : MO E ah m ma) {e axx whh n N : Nat} {r : Nat → Nat} {mq : Nat → Nat → Nat} (hN : N ≤ 200) : ∀ z k t ai fg, k + z = N → t + z ≤ 1000 → EQ ai e axx whh r → EM ai e axx whh r mq n → EF (ai 10) e axx whh r fg → ai 8 e = nI t → ∃ ai', EF (ai' 10) e axx whh r (trnN axx r mq n z t fg) ∧ (ai' 8 e = nI (t + z) ∧ ∀ j, ¬ j = e → ai' 8 j = ai 8 j) ∧ same84 (ai 10) (ai' 10) e ∧ (∀ k, ¬ (k = 8 ∨ k = 10 ∨ k = 17) → ai' k = ai k) ∧ WP E (c + 3) 224 65 [some (.ref m), some (.int (nI e)), some (.int (nI N)), some (.int (nI k))] [] (mh E ah m ma v ai al) (fun r1 x1 => r1 = some (.int (nI (t + z))) ∧ x1 = mh E ah m ma v ai' al)
  | 0, k, t, ai, fg, hk, ht, hq, hM, hF, h8 => by
    refine ⟨ai, hF, ⟨h8, fun j hj => rfl⟩, fun p hp => rfl, fun k hk => rfl, ?_⟩
    have e4 := hq.1
    rw [show k = N by omega, r224_65]
    simp (disch := first | assumption | omega | decide | (simp only [List.length_cons, List.length_nil, Nat.reduceAdd, Nat.reduceLT]; done) | fail) only [r224_66, r224_67, r224_98, r224_99, r224_102, r224_103, r224_104, mh_o h, gm_8, WPo_some, List.getElem?_cons_succ, List.getElem?_cons_zero, kil_n, kil_i, kil_a, kil_u, kil_l, Option.toList_some, Option.toList_none, List.cons_append, List.nil_append, List.set_cons_succ, List.set_cons_zero, addm1, Nat.reduceAdd, List.length_cons, List.length_nil, Nat.reduceLT, gI, hm_8 h, h8, nI_clamp, nI_toInt, nI_leL, nI_Lle, nI_ltL, nI_Llt, nI_eqL, nI_Leq, nI_leE, nI_ltE, nI_eqE, nI_eqM, nI_add, nI_addL, nI_Ladd, nI_mulL, nI_Lmul, pk_mul, pk_sub, nI_subL, nI_Lsub, i2l_nI, Int.toNat_natCast, Nat.not_lt_zero, Nat.zero_le, ifT, ifF, not_true_eq_false, not_false_eq_true, if_true, if_false, or_self, and_self, true_and, and_true, or_true, true_or, false_or, or_false, false_and, and_false, Nat.add_zero]
  | z + 1, k, t, ai, fg, hk, ht, hq, hM, hF, h8 => by
    have e4 := hq.1
    obtain ⟨F', Z', a1, a2, a3⟩ := m_turned (c := c) (v := v) (al := al) h hq hM hF (show t + 1 ≤ 1000 by omega)
    obtain ⟨ai2, b1, b2, b3, b4, b5⟩ := l_mT h hN z (k + 1) (t + 1) (iu (iu (iu ai 8 (upd (ai 8) e (nI (t + 1)))) 10 F') 17 Z') _ (by omega) (by omega) (EQ_fr hq (fun k hk => by rw [iu_ne (by omega), iu_ne (by omega), iu_ne (by omega)])) (EM_fr hM (fun k h1 h2 => by rw [iu_ne (by omega), iu_ne (by omega), iu_ne (by omega)])) (by rw [iu_ne (by decide), iu_at]; exact a1) (by rw [iu_ne (by decide), iu_ne (by decide), iu_at, upd_at])
    rw [iu_ne (by decide), iu_at] at b3
    rw [iu_ne (by decide), iu_ne (by decide), iu_at] at b2
    rw [show t + (z + 1) = t + 1 + z by omega]
    refine ⟨ai2, b1, ⟨b2.1, fun j hj => by rw [b2.2 j hj, upd_ne hj]⟩, s84_tr a2 b3, fun k hk => by rw [b4 k hk, iu_ne (by omega), iu_ne (by omega), iu_ne (by omega)], ?_⟩
    rw [r224_65]
    simp (disch := first | assumption | omega | decide | (simp only [List.length_cons, List.length_nil, Nat.reduceAdd, Nat.reduceLT]; done) | fail) only [r224_66, r224_67, r224_70, r224_71, r224_74, r224_75, r224_75l, r224_76, r224_77, r224_78, r224_79, r224_80, r224_81, r224_82, r224_83, r224_86, r224_87, r224_88, mh_o h, gm_8, WPo_some, List.getElem?_cons_succ, List.getElem?_cons_zero, kil_n, kil_i, kil_a, kil_u, kil_l, Option.toList_some, Option.toList_none, List.cons_append, List.nil_append, List.set_cons_succ, List.set_cons_zero, addm1, Nat.reduceAdd, List.length_cons, List.length_nil, Nat.reduceLT, gI, pI, hm_8 h, sm_8 h, h8, iu_at, upd_at, nI_clamp, nI_toInt, nI_leL, nI_Lle, nI_ltL, nI_Llt, nI_eqL, nI_Leq, nI_leE, nI_ltE, nI_eqE, nI_eqM, nI_add, nI_addL, nI_Ladd, nI_mulL, nI_Lmul, pk_mul, pk_sub, nI_subL, nI_Lsub, i2l_nI, Int.toNat_natCast, Nat.not_lt_zero, Nat.zero_le, ifT, ifF, not_true_eq_false, not_false_eq_true, if_true, if_false, or_self, and_self, true_and, and_true, or_true, true_or, false_or, or_false, false_and, and_false, q224_89 a3 h.ci, r224_92, r224_95]
    exact b5
theorem m_turn_no (h : MO E ah m ma) (hm : enM v ai en ax wh rx fg tu ms mq) {e n : Int32} (hs : ¬ tuSt en tu e n = 0) : EV E (c + 3) 224 [.ref m, .int e, .int n] (mh E ah m ma v ai al) (some (.int (-1))) (mh E ah m ma (vu (vu v 1 (.int 0)) 0 (.int (tuSt en tu e n))) ai al) := by
  refine e224 ?_
  have h4 := hm.1
  have hv' : vu (vu v 1 (.int 0)) 0 (.int 0) 5 = .int (nI en) := hm.2.1
  by_cases h1 : 0 ≤ e.toInt ∧ e.toInt < en
  · obtain ⟨i, hi, rfl⟩ := i32_nat (n := en) h1.1 h1.2
    obtain ⟨hq, f1, t1, e1⟩ := hm.2.2.1 i hi
    rw [tuSt_i hi h4] at hs ⊢
    by_cases h2 : 1 ≤ n.toInt ∧ n.toInt ≤ 200
    · have h3 : ¬ tu i + n.toInt ≤ 1000 := fun z => hs (by rw [if_neg (not_not_intro h2), if_pos z])
      obtain ⟨k, hk, rfl⟩ := i32_nat (n := 201) (x := n) (by omega) (by omega)
      have h2' := h2
      have h3' := h3
      rw [nI_toInt (by omega)] at h2' h3'
      have h5 : ¬ tu i + k ≤ 1000 := by omega
      have t2 := t1.2
      simp (disch := first | assumption | omega | decide | (simp only [List.length_cons, List.length_nil, Nat.reduceAdd, Nat.reduceLT]; done) | fail) only [r224_0, r224_1, r224_2, r224_5, r224_6, r224_7, r224_10, r224_11, r224_15, r224_18, r224_19, r224_23, r224_24, r224_25, r224_26, r224_27, r224_33, r224_36, r224_37, r224_41, r224_42, r224_43, r224_46, r224_47, r224_48, r224_49, r224_50, r224_53, r224_56, r224_57, r224_62, r224_63, r224_64, r224_65, r224_66, r224_67, r224_70, r224_71, r224_74, r224_75, r224_75l, r224_76, r224_77, r224_78, r224_79, r224_80, r224_81, r224_82, r224_83, r224_86, r224_87, r224_88, r224_92, r224_95, r224_98, r224_99, r224_102, r224_103, r224_104, mh_o h, mh_put h, pm_1, pm_0, gm_8, WPo_some, List.getElem?_cons_succ, List.getElem?_cons_zero, kil_n, kil_i, kil_a, kil_u, kil_l, Option.toList_some, Option.toList_none, List.cons_append, List.nil_append, List.set_cons_succ, List.set_cons_zero, addm1, Nat.reduceAdd, List.length_cons, List.length_nil, Nat.reduceLT, q224_12 (m_isEngine h hv' h4) h.ci, q224_30 m_isIn, q224_59 (m_refuse h) h.ci, h1, h2, h2', h3, h3', h5, b2i_eq0, not_true_eq_false, not_false_eq_true, if_true, if_false, or_self, and_self, true_and, and_true, or_true, true_or, false_or, or_false, false_and, and_false, gI, hm_8 h, t1.1, i64_lt, i64_le, i2l_toInt, Int64.reduceToInt, nI_clamp, nI_toInt, nI_leL, nI_Lle, nI_ltL, nI_Llt, nI_eqL, nI_Leq, nI_leE, nI_ltE, nI_eqE, nI_eqM, nI_add, nI_addL, nI_Ladd, nI_mulL, nI_Lmul, pk_mul, pk_sub, nI_subL, nI_Lsub, i2l_nI, Int.toNat_natCast, Nat.not_lt_zero, Nat.zero_le, ifT, ifF, vu_vu]
    · simp (disch := first | assumption | omega | decide | (simp only [List.length_cons, List.length_nil, Nat.reduceAdd, Nat.reduceLT]; done) | fail) only [r224_0, r224_1, r224_2, r224_5, r224_6, r224_7, r224_10, r224_11, r224_15, r224_18, r224_19, r224_23, r224_24, r224_25, r224_26, r224_27, r224_33, r224_36, r224_37, r224_41, r224_42, r224_43, r224_46, r224_47, r224_48, r224_49, r224_50, r224_53, r224_56, r224_57, r224_62, r224_63, r224_64, r224_65, r224_66, r224_67, r224_70, r224_71, r224_74, r224_75, r224_75l, r224_76, r224_77, r224_78, r224_79, r224_80, r224_81, r224_82, r224_83, r224_86, r224_87, r224_88, r224_92, r224_95, r224_98, r224_99, r224_102, r224_103, r224_104, mh_o h, mh_put h, pm_1, pm_0, gm_8, WPo_some, List.getElem?_cons_succ, List.getElem?_cons_zero, kil_n, kil_i, kil_a, kil_u, kil_l, Option.toList_some, Option.toList_none, List.cons_append, List.nil_append, List.set_cons_succ, List.set_cons_zero, addm1, Nat.reduceAdd, List.length_cons, List.length_nil, Nat.reduceLT, q224_12 (m_isEngine h hv' h4) h.ci, q224_30 m_isIn, q224_38 (m_refuse h) h.ci, h1, h2, b2i_eq0, not_true_eq_false, not_false_eq_true, if_true, if_false, or_self, and_self, true_and, and_true, or_true, true_or, false_or, or_false, false_and, and_false, i64_lt, i64_le, i2l_toInt, Int64.reduceToInt, nI_clamp, nI_toInt, nI_leL, nI_Lle, nI_ltL, nI_Llt, nI_eqL, nI_Leq, nI_leE, nI_ltE, nI_eqE, nI_eqM, nI_add, nI_addL, nI_Ladd, nI_mulL, nI_Lmul, pk_mul, pk_sub, nI_subL, nI_Lsub, i2l_nI, Int.toNat_natCast, Nat.not_lt_zero, Nat.zero_le, ifT, ifF, vu_vu]
  · have e0 : tuSt en tu e n = 2 := if_pos h1
    rw [e0]
    simp (disch := first | assumption | omega | decide | (simp only [List.length_cons, List.length_nil, Nat.reduceAdd, Nat.reduceLT]; done) | fail) only [r224_0, r224_1, r224_2, r224_5, r224_6, r224_7, r224_10, r224_11, r224_15, r224_18, r224_19, r224_23, r224_24, r224_25, r224_26, r224_27, r224_33, r224_36, r224_37, r224_41, r224_42, r224_43, r224_46, r224_47, r224_48, r224_49, r224_50, r224_53, r224_56, r224_57, r224_62, r224_63, r224_64, r224_65, r224_66, r224_67, r224_70, r224_71, r224_74, r224_75, r224_75l, r224_76, r224_77, r224_78, r224_79, r224_80, r224_81, r224_82, r224_83, r224_86, r224_87, r224_88, r224_92, r224_95, r224_98, r224_99, r224_102, r224_103, r224_104, mh_o h, mh_put h, pm_1, pm_0, gm_8, WPo_some, List.getElem?_cons_succ, List.getElem?_cons_zero, kil_n, kil_i, kil_a, kil_u, kil_l, Option.toList_some, Option.toList_none, List.cons_append, List.nil_append, List.set_cons_succ, List.set_cons_zero, addm1, Nat.reduceAdd, List.length_cons, List.length_nil, Nat.reduceLT, q224_12 (m_isEngine h hv' h4) h.ci, q224_20 (m_refuse h) h.ci, h1, b2i_eq0, not_true_eq_false, not_false_eq_true, if_true, if_false, or_self, and_self, true_and, and_true, or_true, true_or, false_or, or_false, false_and, and_false, vu_vu]
theorem m_turn_ok (h : MO E ah m ma) (hm : enM v ai en ax wh rx fg tu ms mq) {i n : Nat} (hi : i < en) (hn : 1 ≤ n ∧ n ≤ 200) (ht : tu i + n ≤ 1000) : ∃ ai', EV E (c + 3) 224 [.ref m, .int (nI i), .int (nI n)] (mh E ah m ma v ai al) (some (.int (nI (tu i + n)))) (mh E ah m ma (vu (vu v 1 (.int 0)) 0 (.int 0)) ai' al) ∧ enM (vu (vu v 1 (.int 0)) 0 (.int 0)) ai' en ax wh rx (fnu fg i (trnN (ax i) (rx i) (mq i) (ms i) n (tu i) (fg i))) (fnu tu i (tu i + n)) ms mq ∧ ∀ k, ¬ (k = 8 ∨ k = 10 ∨ k = 17) → ai' k = ai k := by
  have h4 := hm.1
  have hv' : vu (vu v 1 (.int 0)) 0 (.int 0) 5 = .int (nI en) := hm.2.1
  obtain ⟨hq, f1, t1, e1⟩ := hm.2.2.1 i hi
  obtain ⟨ai', b1, b2, b3, b4, b5⟩ := l_mT (c := c) (v := vu (vu v 1 (.int 0)) 0 (.int 0)) (al := al) h (N := n) hn.2 n 0 (tu i) ai (fg i) (by omega) ht hq e1 f1 t1.1
  refine ⟨ai', e224 ?_, ?_, b4⟩
  · have h2 : (1 : Int) ≤ n ∧ (n : Int) ≤ 200 := by omega
    have t2 := t1.2
    simp (disch := first | assumption | omega | decide | (simp only [List.length_cons, List.length_nil, Nat.reduceAdd, Nat.reduceLT]; done) | fail) only [r224_0, r224_1, r224_2, r224_5, r224_6, r224_7, r224_10, r224_11, r224_15, r224_18, r224_19, r224_23, r224_24, r224_25, r224_26, r224_27, r224_33, r224_36, r224_37, r224_41, r224_42, r224_43, r224_46, r224_47, r224_48, r224_49, r224_50, r224_53, r224_56, r224_57, r224_62, r224_63, r224_64, mh_o h, mh_put h, pm_1, pm_0, gm_8, WPo_some, List.getElem?_cons_succ, List.getElem?_cons_zero, kil_n, kil_i, kil_a, kil_u, kil_l, Option.toList_some, Option.toList_none, List.cons_append, List.nil_append, List.set_cons_succ, List.set_cons_zero, addm1, Nat.reduceAdd, List.length_cons, List.length_nil, Nat.reduceLT, q224_12 (m_isEngine h hv' h4) h.ci, q224_30 m_isIn, h2, b2i_eq0, not_true_eq_false, not_false_eq_true, if_true, if_false, or_self, and_self, true_and, and_true, or_true, true_or, false_or, or_false, false_and, and_false, gI, hm_8 h, t1.1, i64_lt, i64_le, i2l_toInt, Int64.reduceToInt, nI_clamp, nI_toInt, nI_leL, nI_Lle, nI_ltL, nI_Llt, nI_eqL, nI_Leq, nI_leE, nI_ltE, nI_eqE, nI_eqM, nI_add, nI_addL, nI_Ladd, nI_mulL, nI_Lmul, pk_mul, pk_sub, nI_subL, nI_Lsub, i2l_nI, Int.toNat_natCast, Nat.not_lt_zero, Nat.zero_le, ifT, ifF, nI_toInt, show (0 : Int) ≤ (i : Int) ∧ (i : Int) < (en : Int) by omega]
    exact b5
  · have := hm.up (v' := vu (vu v 1 (.int 0)) 0 (.int 0)) (ai' := ai') hi rfl (fun k hk => b4 k (by omega)) (fun e he he4 => ⟨⟨b2.2 e he, by rw [b4 12 (by omega)]⟩, fun p hp => b3 _ (by omega), fun k j h1 h2 h3 => by rw [b4 k (by omega)]⟩) b1 ⟨b2.1, ht⟩ (EM_fr e1 (fun k h1 h2 => b4 k (by omega)))
    rw [fnu_self, fnu_self] at this
    exact this
theorem m_asks (h : MO E ah m ma) (hm : enM v ai en ax wh rx fg tu ms mq) (hT : TM ai al sr mn tn) {e tray n : Int32} : EV E (c + 2) 226 [.ref m, .int e, .int tray, .int n] (mh E ah m ma v ai al) (some (.int (etSt en sr mn e tray n 60))) (mh E ah m ma v ai al) := by
  refine e226 ?_
  have h4 := hm.1
  have hv := hm.2.1
  unfold etSt
  by_cases h1 : 0 ≤ tray.toInt ∧ tray.toInt ≤ 3
  · obtain ⟨j, hj, rfl⟩ := i32_nat (n := 4) h1.1 (by omega)
    obtain ⟨m1, m2, m3⟩ := hT j hj
    have e1 := nI_toInt (show j < 2 ^ 31 by omega)
    by_cases h2 : 0 ≤ e.toInt ∧ e.toInt < en
    · by_cases h3 : sr j = -1
      · rw [if_pos h3] at m2
        simp (disch := first | assumption | omega | decide | (simp only [List.length_cons, List.length_nil, Nat.reduceAdd, Nat.reduceLT]; done) | fail) only [r226_0, r226_1, r226_4, r226_5, r226_6, r226_9, r226_10, r226_11, r226_12, r226_16, r226_19, r226_20, r226_21, r226_22, r226_25, r226_26, r226_27, r226_30, r226_31, r226_32, r226_33, r226_34, r226_35, r226_41, r226_44, r226_45, r226_46, r226_47, r226_50, r226_51, r226_52, r226_53, r226_56, r226_57, r226_60, r226_61, mh_o h, gm_3, WPo_some, List.getElem?_cons_succ, List.getElem?_cons_zero, kil_n, kil_i, kil_a, kil_u, kil_l, Option.toList_some, Option.toList_none, List.cons_append, List.nil_append, List.set_cons_succ, List.set_cons_zero, addm1, Nat.reduceAdd, List.length_cons, List.length_nil, Nat.reduceLT, q226_13 (m_isEngine h hv h4) h.ci, h1, h2, h3, e1, b2i_eq0, not_true_eq_false, not_false_eq_true, if_true, if_false, or_self, and_self, true_and, and_true, or_true, true_or, false_or, or_false, false_and, and_false, gI, hm_3 h, m2.1, nI_clamp, nI_toInt, nI_leL, nI_Lle, nI_ltL, nI_Llt, nI_eqL, nI_Leq, nI_leE, nI_ltE, nI_eqE, nI_eqM, nI_add, nI_addL, nI_Ladd, nI_mulL, nI_Lmul, pk_mul, pk_sub, nI_subL, nI_Lsub, i2l_nI, Int.toNat_natCast, Nat.not_lt_zero, Nat.zero_le, ifT, ifF, show ¬ (0 : Int32) ≤ -1 by decide]
      · rw [if_neg h3] at m2
        have e2 := nI_toInt (show mn j < 2 ^ 31 by omega)
        simp (disch := first | assumption | omega | decide | (simp only [List.length_cons, List.length_nil, Nat.reduceAdd, Nat.reduceLT]; done) | fail) only [r226_0, r226_1, r226_4, r226_5, r226_6, r226_9, r226_10, r226_11, r226_12, r226_16, r226_19, r226_20, r226_21, r226_22, r226_25, r226_26, r226_27, r226_30, r226_31, r226_32, r226_33, r226_34, r226_35, r226_41, r226_44, r226_45, r226_46, r226_47, r226_50, r226_51, r226_52, r226_53, r226_56, r226_57, r226_60, r226_61, mh_o h, gm_3, WPo_some, List.getElem?_cons_succ, List.getElem?_cons_zero, kil_n, kil_i, kil_a, kil_u, kil_l, Option.toList_some, Option.toList_none, List.cons_append, List.nil_append, List.set_cons_succ, List.set_cons_zero, addm1, Nat.reduceAdd, List.length_cons, List.length_nil, Nat.reduceLT, q226_13 (m_isEngine h hv h4) h.ci, q226_38 m_isIn, h1, h2, h3, e1, b2i_eq0, not_true_eq_false, not_false_eq_true, if_true, if_false, or_self, and_self, true_and, and_true, or_true, true_or, false_or, or_false, false_and, and_false, gI, hm_3 h, m2.1, nI_clamp, nI_toInt, nI_leL, nI_Lle, nI_ltL, nI_Llt, nI_eqL, nI_Leq, nI_leE, nI_ltE, nI_eqE, nI_eqM, nI_add, nI_addL, nI_Ladd, nI_mulL, nI_Lmul, pk_mul, pk_sub, nI_subL, nI_Lsub, i2l_nI, Int.toNat_natCast, Nat.not_lt_zero, Nat.zero_le, ifT, ifF, i64_lt, i64_le, i2l_toInt, Int64.reduceToInt]
        simp only [i32_lt, i32_le, i64_lt, i64_le, i2l_toInt, Int32.reduceToInt, Int64.reduceToInt, e2]
        repeat' split
        all_goals first | exact trivial | exact ⟨rfl, rfl⟩ | (exfalso; omega) | (exfalso; simp_all; done) | (simp_all; done)
    · simp (disch := first | assumption | omega | decide | (simp only [List.length_cons, List.length_nil, Nat.reduceAdd, Nat.reduceLT]; done) | fail) only [r226_0, r226_1, r226_4, r226_5, r226_6, r226_9, r226_10, r226_11, r226_12, r226_16, r226_19, r226_20, r226_21, r226_22, r226_25, r226_26, r226_27, r226_30, r226_31, r226_32, r226_33, r226_34, r226_35, r226_41, r226_44, r226_45, r226_46, r226_47, r226_50, r226_51, r226_52, r226_53, r226_56, r226_57, r226_60, r226_61, mh_o h, gm_3, WPo_some, List.getElem?_cons_succ, List.getElem?_cons_zero, kil_n, kil_i, kil_a, kil_u, kil_l, Option.toList_some, Option.toList_none, List.cons_append, List.nil_append, List.set_cons_succ, List.set_cons_zero, addm1, Nat.reduceAdd, List.length_cons, List.length_nil, Nat.reduceLT, q226_13 (m_isEngine h hv h4) h.ci, h1, h2, e1, b2i_eq0, not_true_eq_false, not_false_eq_true, if_true, if_false, or_self, and_self, true_and, and_true, or_true, true_or, false_or, or_false, false_and, and_false, nI_clamp, nI_toInt, nI_leL, nI_Lle, nI_ltL, nI_Llt, nI_eqL, nI_Leq, nI_leE, nI_ltE, nI_eqE, nI_eqM, nI_add, nI_addL, nI_Ladd, nI_mulL, nI_Lmul, pk_mul, pk_sub, nI_subL, nI_Lsub, i2l_nI, Int.toNat_natCast, Nat.not_lt_zero, Nat.zero_le, ifT, ifF]
  · by_cases h2 : tray < 0
    · simp (disch := first | assumption | omega | decide | (simp only [List.length_cons, List.length_nil, Nat.reduceAdd, Nat.reduceLT]; done) | fail) only [r226_0, r226_1, r226_4, r226_5, r226_6, r226_9, r226_10, r226_11, r226_12, r226_16, r226_19, r226_20, r226_21, r226_22, r226_25, r226_26, r226_27, r226_30, r226_31, r226_32, r226_33, r226_34, r226_35, r226_41, r226_44, r226_45, r226_46, r226_47, r226_50, r226_51, r226_52, r226_53, r226_56, r226_57, r226_60, r226_61, h2, h1, not_true_eq_false, not_false_eq_true, if_true, if_false, or_self, and_self, true_and, and_true, or_true, true_or, false_or, or_false, false_and, and_false]
    · have h3 : ¬ tray < 4 := by
        simp only [i32_lt, i32_le, i64_lt, i64_le, i2l_toInt, Int32.reduceToInt, Int64.reduceToInt] at h2 ⊢
        omega
      simp (disch := first | assumption | omega | decide | (simp only [List.length_cons, List.length_nil, Nat.reduceAdd, Nat.reduceLT]; done) | fail) only [r226_0, r226_1, r226_4, r226_5, r226_6, r226_9, r226_10, r226_11, r226_12, r226_16, r226_19, r226_20, r226_21, r226_22, r226_25, r226_26, r226_27, r226_30, r226_31, r226_32, r226_33, r226_34, r226_35, r226_41, r226_44, r226_45, r226_46, r226_47, r226_50, r226_51, r226_52, r226_53, r226_56, r226_57, r226_60, r226_61, h2, h3, h1, not_true_eq_false, not_false_eq_true, if_true, if_false, or_self, and_self, true_and, and_true, or_true, true_or, false_or, or_false, false_and, and_false]
end TSM

/-! Engines of the model: sheet -/
section TSM2
variable {E : aEnv} {c m : Nat} {ah : aHp} {ma : Nat → Nat} {v : Nat → Value} {ai : Nat → Nat → Int32} {al : Nat → Nat → Int64} {en : Nat} {ax wh : Nat → Nat} {rx : Nat → Nat → Nat} {fg : Nat → Nat → Nat → Nat} {tu ms : Nat → Nat} {mq : Nat → Nat → Nat → Nat} {sr : Nat → Int32} {mn : Nat → Nat} {tn : Nat → Nat → Int64}
theorem m_cutTo {ah : aHp} {s : Int32} {x : Int64} : EV E c 225 [.int s, .long x] ah (some (.long (cutF s x))) ah := by
  refine e225 ?_
  simp only [r225_0, r225_1, r225_4, r225_5, r225_6, r225_7, r225_8, r225_11, r225_12, r225_13, r225_16, r225_17, r225_18, r225_19, r225_20, r225_23, r225_24, r225_25, r225_28, r225_29, r225_30, r225_31, r225_34, r225_35, cutF]
  by_cases h0 : s = 0
  · simp [h0]
  · by_cases h1 : s = 1
    · simp [h1]
    · by_cases h2 : s = 2
      · simp [h2]
      · simp [h0, h1, h2]
theorem TM_fr {ai' : Nat → Nat → Int32} {al' : Nat → Nat → Int64} (h : TM ai al sr mn tn) (h2 : ∀ k, k = 2 ∨ k = 3 → ai' k = ai k) (h4 : al' 4 = al 4) : TM ai' al' sr mn tn := by
  intro i hi
  rw [h2 2 (by omega), h2 3 (by omega), h4]
  exact h i hi
theorem l_mS (h : MO E ah m ma) {e axx whh n N j : Nat} {r : Nat → Nat} {mq : Nat → Nat → Nat} (hj : j < 4) (hN : N ≤ mn j) (hne : ¬ sr j = -1) : ∀ z k t ai al fg tn, k + z = N → t + z ≤ 1000 → EQ ai e axx whh r → EM ai e axx whh r mq n → EF (ai 10) e axx whh r fg → ai 8 e = nI t → TM ai al sr mn tn → ∃ ai' al', EF (ai' 10) e axx whh r (trnN axx r mq n z t fg) ∧ (ai' 8 e = nI (t + z) ∧ ∀ j, ¬ j = e → ai' 8 j = ai 8 j) ∧ same84 (ai 10) (ai' 10) e ∧ (∀ k, ¬ (k = 8 ∨ k = 10 ∨ k = 17) → ai' k = ai k) ∧ TM ai' al' sr mn (fnu tn j (shF axx whh r mq n (sr j) z k t fg (tn j))) ∧ (∀ k, ¬ k = 4 → al' k = al k) ∧ WP E (c + 3) 227 55 [some (.ref m), some (.int (nI e)), some (.int (nI j)), some (.int (nI N)), some (.int (nI k))] [] (mh E ah m ma v ai al) (fun r1 x1 => r1 = some (.int 1) ∧ x1 = mh E ah m ma v ai' al')
  | 0, k, t, ai, al, fg, tn, hk, ht, hq, hM, hF, h8, hT => by
    have m1 := (hT j hj).1
    refine ⟨ai, al, hF, ⟨h8, fun j hj => rfl⟩, fun p hp => rfl, fun k hk => rfl, ?_, fun k hk => rfl, ?_⟩
    · unfold shF
      rw [fnu_self]
      exact hT
    have e4 := hq.1
    rw [show k = N by omega, r227_55]
    simp (disch := first | assumption | omega | decide | (simp only [List.length_cons, List.length_nil, Nat.reduceAdd, Nat.reduceLT]; done) | fail) only [r227_57, r227_58, r227_116, r227_117 (x := 0) (Or.inl rfl), r227_117 (x := 1) (Or.inr rfl), r227_117 (b2i_or _), WPo_some, List.getElem?_cons_succ, List.getElem?_cons_zero, kil_n, kil_i, kil_a, kil_u, kil_l, Option.toList_some, Option.toList_none, List.cons_append, List.nil_append, List.set_cons_succ, List.set_cons_zero, addm1, Nat.reduceAdd, List.length_cons, List.length_nil, Nat.reduceLT, nI_clamp, nI_toInt, nI_leL, nI_Lle, nI_ltL, nI_Llt, nI_eqL, nI_Leq, nI_leE, nI_ltE, nI_eqE, nI_eqM, nI_add, nI_addL, nI_Ladd, nI_mulL, nI_Lmul, pk_mul, pk_sub, nI_subL, nI_Lsub, i2l_nI, Int.toNat_natCast, Nat.not_lt_zero, Nat.zero_le, ifT, ifF, not_true_eq_false, not_false_eq_true, if_true, if_false, or_self, and_self, true_and, and_true, or_true, true_or, false_or, or_false, false_and, and_false]
  | z + 1, k, t, ai, al, fg, tn, hk, ht, hq, hM, hF, h8, hT => by
    have e4 := hq.1
    have b := hq.2.1
    obtain ⟨m1, m2, m3⟩ := hT j hj
    rw [if_neg hne] at m2
    obtain ⟨F', Z', a1, a2, a3⟩ := m_turned (c := c) (v := v) (al := al) h hq hM hF (show t + 1 ≤ 1000 by omega)
    have hq2 : EQ (iu (iu (iu ai 8 (upd (ai 8) e (nI (t + 1)))) 10 F') 17 Z') e axx whh r := EQ_fr hq (fun k hk => by rw [iu_ne (by omega), iu_ne (by omega), iu_ne (by omega)])
    have hF2 : EF (iu (iu (iu ai 8 (upd (ai 8) e (nI (t + 1)))) 10 F') 17 Z' 10) e axx whh r (trn axx r mq n (t + 1) fg) := by rw [iu_ne (by decide), iu_at]; exact a1
    have hT2 : TM (iu (iu (iu ai 8 (upd (ai 8) e (nI (t + 1)))) 10 F') 17 Z') al sr mn tn := TM_fr hT (fun k hk => by rw [iu_ne (by omega), iu_ne (by omega), iu_ne (by omega)]) rfl
    have k1 := m_onAxis (c := c + 1) (v := v) (al := al) h hq2 hF2 (x := 0) (by omega)
    rw [show nI 0 = 0 from rfl] at k1
    obtain ⟨ai2, al2, b1, b2, b3, b4, b5, b6, b7⟩ := l_mS h hj hN hne z (k + 1) (t + 1) (iu (iu (iu ai 8 (upd (ai 8) e (nI (t + 1)))) 10 F') 17 Z') _ _ _ (by omega) (by omega) hq2 (EM_fr hM (fun k h1 h2 => by rw [iu_ne (by omega), iu_ne (by omega), iu_ne (by omega)])) hF2 (by rw [iu_ne (by decide), iu_ne (by decide), iu_at, upd_at]) (hT2.write hj (show k < mn j by omega) (w := cutF (sr j) (lN (nmb r (trn axx r mq n (t + 1) fg 0) whh))))
    rw [iu_ne (by decide), iu_at] at b3
    rw [iu_ne (by decide), iu_ne (by decide), iu_at] at b2
    rw [fnu_fnu, fnu_at] at b5
    rw [show t + (z + 1) = t + 1 + z by omega]
    refine ⟨ai2, al2, b1, ⟨b2.1, fun j hj => by rw [b2.2 j hj, upd_ne hj]⟩, s84_tr a2 b3, fun k hk => by rw [b4 k hk, iu_ne (by omega), iu_ne (by omega), iu_ne (by omega)], b5, fun k hk => by rw [b6 k hk, lu_ne hk], ?_⟩
    rw [r227_55]
    simp (disch := first | assumption | omega | decide | (simp only [List.length_cons, List.length_nil, Nat.reduceAdd, Nat.reduceLT]; done) | fail) only [r227_57, r227_58, r227_61, r227_62, r227_65, r227_66, r227_66l, r227_67, r227_68, r227_69, r227_70, r227_71, r227_72, r227_73, r227_74, r227_77, r227_78, r227_79, r227_83, r227_84, r227_87, r227_89, r227_90, r227_91, r227_93, r227_94, r227_95, r227_98, r227_99, r227_100, r227_101, r227_102, r227_109, mh_o h, gm_8, gm_4, gm_2, WPo_some, List.getElem?_cons_succ, List.getElem?_cons_zero, kil_n, kil_i, kil_a, kil_u, kil_l, Option.toList_some, Option.toList_none, List.cons_append, List.nil_append, List.set_cons_succ, List.set_cons_zero, addm1, Nat.reduceAdd, List.length_cons, List.length_nil, Nat.reduceLT, gI, pI, pL, hm_8 h, sm_8 h, hm_2 h, hm_4 h, sm_4 h, h8, m2.2.1, iu_at, iu_ne, upd_at, nI_clamp, nI_toInt, nI_leL, nI_Lle, nI_ltL, nI_Llt, nI_eqL, nI_Leq, nI_leE, nI_ltE, nI_eqE, nI_eqM, nI_add, nI_addL, nI_Ladd, nI_mulL, nI_Lmul, pk_mul, pk_sub, nI_subL, nI_Lsub, i2l_nI, Int.toNat_natCast, Nat.not_lt_zero, Nat.zero_le, ifT, ifF, not_true_eq_false, not_false_eq_true, if_true, if_false, or_self, and_self, true_and, and_true, or_true, true_or, false_or, or_false, false_and, and_false, q227_80 a3 h.ci, q227_103 k1 h.ci, q227_106 m_cutTo, r227_110, r227_113]
    exact b7
theorem m_sheet_no (h : MO E ah m ma) (hm : enM v ai en ax wh rx fg tu ms mq) (hT : TM ai al sr mn tn) {e tray n : Int32} (hs : ¬ shSt en sr mn tu e tray n = 0) : EV E (c + 3) 227 [.ref m, .int e, .int tray, .int n] (mh E ah m ma v ai al) (some (.int 0)) (mh E ah m ma (vu (vu v 1 (.int 0)) 0 (.int (shSt en sr mn tu e tray n))) ai al) := by
  refine e227 ?_
  have h4 := hm.1
  have e0 : ∀ z, vu (vu v 1 (.int 0)) 0 z 0 = z := fun z => by simp [vu]
  have hm' : enM (vu v 1 (.int 0)) ai en ax wh rx fg tu ms mq := hm
  by_cases h1 : etSt en sr mn e tray n 60 = 0
  · have e9 : shSt en sr mn tu e tray n = 9 := by
      unfold shSt at hs ⊢
      rw [if_neg (not_not_intro h1)] at hs ⊢
      split at hs
      · exact absurd rfl hs
      · next z => rw [if_neg z]
    obtain ⟨i, j, k, hi, rfl, hj, rfl, hne, rfl, k1, k2, k3⟩ := etSt_0 h4 (top := 60) (by omega) h1
    obtain ⟨hq, f1, t1, e1⟩ := hm.2.2.1 i hi
    have h9 : ¬ tu i + k ≤ 1000 := by
      intro z
      unfold shSt at e9
      rw [if_neg (not_not_intro h1), nI_toInt (by omega), nI_toInt (by omega), Int.toNat_natCast, if_pos (by omega)] at e9
      exact absurd e9 (by decide)
    have t2 := t1.2
    rw [e9]
    simp (disch := first | assumption | omega | decide | (simp only [List.length_cons, List.length_nil, Nat.reduceAdd, Nat.reduceLT]; done) | fail) only [r227_0, r227_1, r227_2, r227_5, r227_6, r227_7, r227_8, r227_9, r227_13, r227_16, r227_17, r227_20, r227_23, r227_24, r227_27, r227_28, r227_29, r227_30, r227_31, r227_34, r227_37, r227_38, r227_40, r227_43, r227_44, r227_47, r227_50, r227_51 (x := 0) (Or.inl rfl), r227_51 (x := 1) (Or.inr rfl), r227_51 (b2i_or _), mh_o h, mh_put h, pm_1, pm_0, gm_0, gm_8, WPo_some, List.getElem?_cons_succ, List.getElem?_cons_zero, kil_n, kil_i, kil_a, kil_u, kil_l, Option.toList_some, Option.toList_none, List.cons_append, List.nil_append, List.set_cons_succ, List.set_cons_zero, addm1, Nat.reduceAdd, List.length_cons, List.length_nil, Nat.reduceLT, q227_10 (m_asks h hm' hT) h.ci, h1, e0, not_true_eq_false, not_false_eq_true, if_true, if_false, or_self, and_self, true_and, and_true, or_true, true_or, false_or, or_false, false_and, and_false, gI, hm_8 h, t1.1, nI_clamp, nI_toInt, nI_leL, nI_Lle, nI_ltL, nI_Llt, nI_eqL, nI_Leq, nI_leE, nI_ltE, nI_eqE, nI_eqM, nI_add, nI_addL, nI_Ladd, nI_mulL, nI_Lmul, pk_mul, pk_sub, nI_subL, nI_Lsub, i2l_nI, Int.toNat_natCast, Nat.not_lt_zero, Nat.zero_le, ifT, ifF, vu_vu, show ¬ (9 : Int32) ≤ 0 by decide]
  · have e2 : shSt en sr mn tu e tray n = etSt en sr mn e tray n 60 := if_pos h1
    have e3 : ¬ etSt en sr mn e tray n 60 ≤ 0 := by
      unfold etSt at h1 ⊢
      repeat' split at h1
      all_goals first | exact absurd rfl h1 | skip
      all_goals repeat' split
      all_goals first | decide | contradiction
    rw [e2]
    simp (disch := first | assumption | omega | decide | (simp only [List.length_cons, List.length_nil, Nat.reduceAdd, Nat.reduceLT]; done) | fail) only [r227_0, r227_1, r227_2, r227_5, r227_6, r227_7, r227_8, r227_9, r227_13, r227_16, r227_17, r227_20, r227_23, r227_24, r227_27, r227_28, r227_29, r227_30, r227_31, r227_34, r227_37, r227_38, r227_40, r227_43, r227_44, r227_47, r227_50, r227_51 (x := 0) (Or.inl rfl), r227_51 (x := 1) (Or.inr rfl), r227_51 (b2i_or _), mh_o h, mh_put h, pm_1, pm_0, gm_0, gm_8, WPo_some, List.getElem?_cons_succ, List.getElem?_cons_zero, kil_n, kil_i, kil_a, kil_u, kil_l, Option.toList_some, Option.toList_none, List.cons_append, List.nil_append, List.set_cons_succ, List.set_cons_zero, addm1, Nat.reduceAdd, List.length_cons, List.length_nil, Nat.reduceLT, q227_10 (m_asks h hm' hT) h.ci, h1, e0, e3, not_true_eq_false, not_false_eq_true, if_true, if_false, or_self, and_self, true_and, and_true, or_true, true_or, false_or, or_false, false_and, and_false]
theorem m_sheet_ok (h : MO E ah m ma) (hm : enM v ai en ax wh rx fg tu ms mq) (hT : TM ai al sr mn tn) {i j k : Nat} (hi : i < en) (hj : j < 4) (hne : ¬ sr j = -1) (hk : 1 ≤ k ∧ k ≤ 60 ∧ k ≤ mn j) (hu : tu i + k ≤ 1000) : ∃ ai' al', EV E (c + 3) 227 [.ref m, .int (nI i), .int (nI j), .int (nI k)] (mh E ah m ma v ai al) (some (.int 1)) (mh E ah m ma (vu (vu v 1 (.int 0)) 0 (.int 0)) ai' al') ∧ enM (vu (vu v 1 (.int 0)) 0 (.int 0)) ai' en ax wh rx (fnu fg i (trnN (ax i) (rx i) (mq i) (ms i) k (tu i) (fg i))) (fnu tu i (tu i + k)) ms mq ∧ TM ai' al' sr mn (fnu tn j (shF (ax i) (wh i) (rx i) (mq i) (ms i) (sr j) k 0 (tu i) (fg i) (tn j))) ∧ (∀ k, ¬ (k = 8 ∨ k = 10 ∨ k = 17) → ai' k = ai k) ∧ ∀ k, ¬ k = 4 → al' k = al k := by
  have h4 := hm.1
  have e0 : ∀ z, vu (vu v 1 (.int 0)) 0 z 0 = z := fun z => by simp [vu]
  have hm' : enM (vu v 1 (.int 0)) ai en ax wh rx fg tu ms mq := hm
  obtain ⟨hq, f1, t1, e1⟩ := hm.2.2.1 i hi
  obtain ⟨ai', al', b1, b2, b3, b4, b5, b6, b7⟩ := l_mS (c := c) (v := vu (vu v 1 (.int 0)) 0 (.int 0)) h (N := k) hj hk.2.2 hne k 0 (tu i) ai al (fg i) tn (by omega) hu hq e1 f1 t1.1 hT
  refine ⟨ai', al', e227 ?_, ?_, b5, b4, b6⟩
  · have t2 := t1.2
    have s0 : etSt en sr mn (nI i) (nI j) (nI k) 60 = 0 := by
      rw [etSt_i hi h4 hj, nI_toInt (by omega), if_neg hne, if_neg (by omega), if_neg (by omega)]
    simp (disch := first | assumption | omega | decide | (simp only [List.length_cons, List.length_nil, Nat.reduceAdd, Nat.reduceLT]; done) | fail) only [r227_0, r227_1, r227_2, r227_5, r227_6, r227_7, r227_8, r227_9, r227_13, r227_16, r227_17, r227_20, r227_23, r227_24, r227_27, r227_28, r227_29, r227_30, r227_31, r227_34, r227_37, r227_38, r227_40, r227_43, r227_44, r227_47, r227_50, r227_51 (x := 0) (Or.inl rfl), r227_51 (x := 1) (Or.inr rfl), r227_51 (b2i_or _), r227_52, r227_53, mh_o h, mh_put h, pm_1, pm_0, gm_0, gm_8, WPo_some, List.getElem?_cons_succ, List.getElem?_cons_zero, kil_n, kil_i, kil_a, kil_u, kil_l, Option.toList_some, Option.toList_none, List.cons_append, List.nil_append, List.set_cons_succ, List.set_cons_zero, addm1, Nat.reduceAdd, List.length_cons, List.length_nil, Nat.reduceLT, q227_10 (m_asks h hm' hT) h.ci, s0, e0, not_true_eq_false, not_false_eq_true, if_true, if_false, or_self, and_self, true_and, and_true, or_true, true_or, false_or, or_false, false_and, and_false, gI, hm_8 h, t1.1, nI_clamp, nI_toInt, nI_leL, nI_Lle, nI_ltL, nI_Llt, nI_eqL, nI_Leq, nI_leE, nI_ltE, nI_eqE, nI_eqM, nI_add, nI_addL, nI_Ladd, nI_mulL, nI_Lmul, pk_mul, pk_sub, nI_subL, nI_Lsub, i2l_nI, Int.toNat_natCast, Nat.not_lt_zero, Nat.zero_le, ifT, ifF]
    exact b7
  · have := hm.up (v' := vu (vu v 1 (.int 0)) 0 (.int 0)) (ai' := ai') hi rfl (fun k hk => b4 k (by omega)) (fun e he he4 => ⟨⟨b2.2 e he, by rw [b4 12 (by omega)]⟩, fun p hp => b3 _ (by omega), fun k j h1 h2 h3 => by rw [b4 k (by omega)]⟩) b1 ⟨b2.1, hu⟩ (EM_fr e1 (fun k h1 h2 => b4 k (by omega)))
    rw [fnu_self, fnu_self] at this
    exact this
end TSM2

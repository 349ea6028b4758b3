/-! The model: fewest, turns, turnsAt -/
section TN3
variable {E : aEnv} {c m : Nat} {ah : aHp} {ma : Nat → Nat} {v : Nat → Value} {ai : Nat → Nat → Int32} {al : Nat → Nat → Int64}
theorem m_fewest (h : MO E ah m ma) {G : Nat → Nat} (hG : GG G) {V : Nat} (hV : V < 1000000000000) : ∃ ai', (∀ k, ¬ (67 ≤ k ∧ k ≤ 69) → ai' k = ai k) ∧ (∀ k, k < 13 → ai' 68 k = figG G (itG G k V)) ∧ EV E (c + 1) 262 [.ref m, .long (lN V)] (mh E ah m ma v ai al) (some (.int (nI (G V)))) (mh E ah m ma v ai' al) := by
  have lA := l_fA (c := c + 1) (v := v) (ai := ai) (al := al) h hV (l1 := some (.long (lN V))) (l6 := none) (l7 := none) (l8 := none) (l9 := none) (D0 := ai 69) (Q := fun r1 x1 => ∃ ai', (∀ k, ¬ (67 ≤ k ∧ k ≤ 69) → ai' k = ai k) ∧ (∀ k, k < 13 → ai' 68 k = figG G (itG G k V)) ∧ r1 = some (.int (nI (G V))) ∧ x1 = mh E ah m ma v ai' al) (fun l3 => by
    obtain ⟨D, hD⟩ : ∃ D, D = ovr (ai 69) 0 14 (fun k => nI (V / 10 ^ k % 10)) := ⟨_, rfl⟩
    rw [← hD]
    have hDk : ∀ k, k < 14 → D k = nI (V / 10 ^ k % 10) := fun k hk => by rw [hD, ovr0_in hk]
    obtain ⟨L0, hL0⟩ : ∃ L0, L0 = upd (upd (ai 67) 26 0) 27 1000 := ⟨_, rfl⟩
    have hLS : LSt G V L0 13 := fun j c' h1 h2 h3 => by
      have ej : j = 13 := by omega
      subst ej
      rcases (show c' = 0 ∨ c' = 1 by omega) with rfl | rfl
      · rw [hL0]
        rfl
      · rw [hL0]
        rfl
    have lB := l_fB (c := c) (v := v) (ai := iu ai 69 D) (al := al) h hG hV (fun k hk => by rw [iu_at]; exact hDk k hk) (l1 := some (.long (lN V))) (l3 := l3) (Q := fun r1 x1 => ∃ ai', (∀ k, ¬ (67 ≤ k ∧ k ≤ 69) → ai' k = ai k) ∧ (∀ k, k < 13 → ai' 68 k = figG G (itG G k V)) ∧ r1 = some (.int (nI (G V))) ∧ x1 = mh E ah m ma v ai' al) (fun L l6 l7 l8 l9 hL => by
      have lC := l_fC (c := c + 1) (v := v) (ai := iu (iu ai 69 D) 67 L) (al := al) h hG hV (fun k hk => by rw [iu_ne (by decide), iu_at]; exact hDk k hk) (by rw [iu_at]; exact hL) (l1 := some (.long (lN V))) (l3 := l3) (F0 := ai 68) 13 0 0 l7 l8 l9 (by omega) (by omega) (by
        show V = V / 10 ^ 0 + 0
        rw [Nat.pow_zero, Nat.div_one, Nat.add_zero])
      have e68 : iu (iu (iu ai 69 D) 67 L) 68 (ai 68) = iu (iu ai 69 D) 67 L := iu_same (by rw [iu_ne (by decide), iu_ne (by decide)])
      rw [ovr_0, e68] at lC
      have lC := lC.mono (Q' := fun r1 x1 => ∃ ai', (∀ k, ¬ (67 ≤ k ∧ k ≤ 69) → ai' k = ai k) ∧ (∀ k, k < 13 → ai' 68 k = figG G (itG G k V)) ∧ r1 = some (.int (nI (G V))) ∧ x1 = mh E ah m ma v ai' al) (fun r1 x1 hh => ⟨_, fun k hk => by rw [iu_ne (by omega), iu_ne (by omega), iu_ne (by omega)], fun k hk => by rw [iu_at, ovr0_in hk], hh.1, hh.2⟩)
      simp (disch := first | assumption | omega | decide | (simp only [List.length_cons, List.length_nil, Nat.reduceAdd, Nat.reduceLT]; done) | fail) only [r262_176, r262_177, r262_179, r262_180, WPo_some, List.getElem?_cons_succ, List.getElem?_cons_zero, kil_n, kil_i, kil_a, kil_u, kil_l, Option.toList_some, Option.toList_none, List.cons_append, List.nil_append, List.set_cons_succ, List.set_cons_zero, addm1, Nat.reduceAdd, List.length_cons, List.length_nil, Nat.reduceLT]
      exact lC) 13 L0 none none none none (by omega) hLS
    rw [hL0] at lB
    have e13 : (nI 13 - 1 : Int32) = 12 := by decide
    rw [e13] at lB
    simp (disch := first | assumption | omega | decide | (simp only [List.length_cons, List.length_nil, Nat.reduceAdd, Nat.reduceLT]; done) | fail) only [r262_37, r262_38, r262_41, r262_43, r262_44, r262_45, r262_46, r262_49, r262_51, r262_54, r262_55, r262_57, mh_o h, gm_67, WPo_some, List.getElem?_cons_succ, List.getElem?_cons_zero, kil_n, kil_i, kil_a, kil_u, kil_l, Option.toList_some, Option.toList_none, List.cons_append, List.nil_append, List.set_cons_succ, List.set_cons_zero, addm1, Nat.reduceAdd, List.length_cons, List.length_nil, Nat.reduceLT, pI, hm_67 h, sm_67 h, iu_at, iu_ne, iu_iu, show ¬ (26 : Int32) < 0 by decide, show ¬ (27 : Int32) < 0 by decide, show (26 : Int32).toNatClampNeg = 26 by decide, show (27 : Int32).toNatClampNeg = 27 by decide, show ¬ 28 ≤ 26 by decide, show ¬ 28 ≤ 27 by decide, not_true_eq_false, not_false_eq_true, if_true, if_false, or_self, and_self, true_and, and_true, or_true, true_or, false_or, or_false, false_and, and_false]
    exact lB) 14 0 (by omega)
  rw [ovr_0, iu_self, Nat.pow_zero, Nat.div_one] at lA
  obtain ⟨r1, x1, ⟨ai', p1, p2, hr1, hx1⟩, hw⟩ := lA.ex
  subst hr1 hx1
  refine ⟨ai', p1, p2, e262 ?_⟩
  simp (disch := first | assumption | omega | decide | (simp only [List.length_cons, List.length_nil, Nat.reduceAdd, Nat.reduceLT]; done) | fail) only [r262_0, r262_1, r262_2, r262_3, WPo_some, List.getElem?_cons_succ, List.getElem?_cons_zero, kil_n, kil_i, kil_a, kil_u, kil_l, Option.toList_some, Option.toList_none, List.cons_append, List.nil_append, List.set_cons_succ, List.set_cons_zero, addm1, Nat.reduceAdd, List.length_cons, List.length_nil, Nat.reduceLT]
  exact hw
theorem m_turns (h : MO E ah m ma) {G : Nat → Nat} (hG : GG G) {x : Int64} : ∃ ai', (∀ k, ¬ (67 ≤ k ∧ k ≤ 69) → ai' k = ai k) ∧ EV E (c + 2) 263 [.ref m, .long x] (mh E ah m ma v ai al) (some (.int (if tnSt x = 0 then nI (G x.toInt.toNat) else -1))) (mh E ah m ma (vu (vu v 1 (.int 0)) 0 (.int (tnSt x))) ai' al) := by
  unfold tnSt
  by_cases h1 : 0 ≤ x.toInt ∧ x.toInt ≤ 999999999999
  · have ev := i64_nat h1.1
    obtain ⟨ai', p1, p2, p3⟩ := m_fewest (c := c) (v := vu (vu v 1 (.int 0)) 0 (.int 0)) (ai := ai) (al := al) h hG (V := x.toInt.toNat) (by omega)
    rw [← ev] at p3
    refine ⟨ai', p1, e263 ?_⟩
    simp (disch := first | assumption | omega | decide | (simp only [List.length_cons, List.length_nil, Nat.reduceAdd, Nat.reduceLT]; done) | fail) only [r263_0, r263_1, r263_2, r263_5, r263_6, r263_7, r263_10, r263_11, r263_12, r263_18, r263_21, r263_22, r263_26, r263_29, r263_30, r263_34, mh_o h, mh_put h, pm_1, pm_0, q263_15 m_isIn, q263_23 p3 h.ci, b2i_eq0, i64_lt, i64_le, i2l_toInt, Int64.reduceToInt, h1, WPo_some, List.getElem?_cons_succ, List.getElem?_cons_zero, kil_n, kil_i, kil_a, kil_u, kil_l, Option.toList_some, Option.toList_none, List.cons_append, List.nil_append, List.set_cons_succ, List.set_cons_zero, addm1, Nat.reduceAdd, List.length_cons, List.length_nil, Nat.reduceLT, not_true_eq_false, not_false_eq_true, if_true, if_false, or_self, and_self, true_and, and_true, or_true, true_or, false_or, or_false, false_and, and_false]
  · refine ⟨ai, fun k hk => rfl, e263 ?_⟩
    simp (disch := first | assumption | omega | decide | (simp only [List.length_cons, List.length_nil, Nat.reduceAdd, Nat.reduceLT]; done) | fail) only [r263_0, r263_1, r263_2, r263_5, r263_6, r263_7, r263_10, r263_11, r263_12, r263_18, r263_21, r263_22, r263_26, r263_29, r263_30, r263_34, mh_o h, mh_put h, pm_1, pm_0, q263_15 m_isIn, q263_31 (m_refuse h) h.ci, b2i_eq0, i64_lt, i64_le, i2l_toInt, Int64.reduceToInt, h1, WPo_some, List.getElem?_cons_succ, List.getElem?_cons_zero, kil_n, kil_i, kil_a, kil_u, kil_l, Option.toList_some, Option.toList_none, List.cons_append, List.nil_append, List.set_cons_succ, List.set_cons_zero, addm1, Nat.reduceAdd, List.length_cons, List.length_nil, Nat.reduceLT, not_true_eq_false, not_false_eq_true, if_true, if_false, or_self, and_self, true_and, and_true, or_true, true_or, false_or, or_false, false_and, and_false, vu_vu, show ¬ (5 : Int32) = 0 by decide]
theorem m_turnsAt (h : MO E ah m ma) {G : Nat → Nat} (hG : GG G) {x : Int64} {k : Int32} : ∃ ai', (∀ k, ¬ (67 ≤ k ∧ k ≤ 69) → ai' k = ai k) ∧ EV E (c + 2) 264 [.ref m, .long x, .int k] (mh E ah m ma v ai al) (some (.int (if taSt x k = 0 then figG G (itG G k.toInt.toNat x.toInt.toNat) else -1))) (mh E ah m ma (vu (vu v 1 (.int 0)) 0 (.int (taSt x k))) ai' al) := by
  unfold taSt
  by_cases h1 : 0 ≤ x.toInt ∧ x.toInt ≤ 999999999999
  · by_cases h2 : 0 ≤ k.toInt ∧ k.toInt ≤ 12
    · obtain ⟨q, hq, rfl⟩ := i32_nat (x := k) (n := 13) h2.1 (by omega)
      have eq := nI_toInt (show q < 2 ^ 31 by omega)
      have h2' := h2
      rw [eq] at h2'
      have ev := i64_nat h1.1
      obtain ⟨ai', p1, p2, p3⟩ := m_fewest (c := c) (v := vu (vu v 1 (.int 0)) 0 (.int 0)) (ai := ai) (al := al) h hG (V := x.toInt.toNat) (by omega)
      rw [← ev] at p3
      refine ⟨ai', p1, e264 ?_⟩
      simp (disch := first | assumption | omega | decide | (simp only [List.length_cons, List.length_nil, Nat.reduceAdd, Nat.reduceLT]; done) | fail) only [r264_0, r264_1, r264_2, r264_5, r264_6, r264_7, r264_10, r264_11, r264_12, r264_18, r264_21, r264_22, r264_23, r264_24, r264_30, r264_33, r264_34, r264_38, r264_39, r264_40, r264_44, r264_45, r264_46, r264_49, r264_50, r264_51, mh_o h, mh_put h, pm_1, pm_0, gm_68, gI, hm_68 h, p2 q hq, q264_15 m_isIn, q264_27 m_isIn, q264_41 p3 h.ci, b2i_eq0, i64_lt, i64_le, i2l_toInt, Int64.reduceToInt, h1, h2, h2', eq, Int.toNat_natCast, WPo_some, List.getElem?_cons_succ, List.getElem?_cons_zero, kil_n, kil_i, kil_a, kil_u, kil_l, Option.toList_some, Option.toList_none, List.cons_append, List.nil_append, List.set_cons_succ, List.set_cons_zero, addm1, Nat.reduceAdd, List.length_cons, List.length_nil, Nat.reduceLT, nI_clamp, nI_toInt, nI_leL, nI_Lle, nI_ltL, nI_Llt, nI_eqL, nI_Leq, nI_leE, nI_ltE, nI_eqE, nI_eqM, nI_add, nI_addL, nI_Ladd, nI_mulL, nI_Lmul, pk_mul, pk_sub, nI_subL, nI_Lsub, i2l_nI, Int.toNat_natCast, Nat.not_lt_zero, Nat.zero_le, ifT, ifF, not_true_eq_false, not_false_eq_true, if_true, if_false, or_self, and_self, true_and, and_true, or_true, true_or, false_or, or_false, false_and, and_false]
    · refine ⟨ai, fun k hk => rfl, e264 ?_⟩
      simp (disch := first | assumption | omega | decide | (simp only [List.length_cons, List.length_nil, Nat.reduceAdd, Nat.reduceLT]; done) | fail) only [r264_0, r264_1, r264_2, r264_5, r264_6, r264_7, r264_10, r264_11, r264_12, r264_18, r264_21, r264_22, r264_23, r264_24, r264_30, r264_33, r264_34, r264_38, r264_39, r264_40, r264_44, r264_45, r264_46, r264_49, r264_50, r264_51, mh_o h, mh_put h, pm_1, pm_0, q264_15 m_isIn, q264_27 m_isIn, q264_35 (m_refuse h) h.ci, b2i_eq0, i64_lt, i64_le, i2l_toInt, Int64.reduceToInt, h1, h2, WPo_some, List.getElem?_cons_succ, List.getElem?_cons_zero, kil_n, kil_i, kil_a, kil_u, kil_l, Option.toList_some, Option.toList_none, List.cons_append, List.nil_append, List.set_cons_succ, List.set_cons_zero, addm1, Nat.reduceAdd, List.length_cons, List.length_nil, Nat.reduceLT, not_true_eq_false, not_false_eq_true, if_true, if_false, or_self, and_self, true_and, and_true, or_true, true_or, false_or, or_false, false_and, and_false, vu_vu, show ¬ (5 : Int32) = 0 by decide]
  · refine ⟨ai, fun k hk => rfl, e264 ?_⟩
    simp (disch := first | assumption | omega | decide | (simp only [List.length_cons, List.length_nil, Nat.reduceAdd, Nat.reduceLT]; done) | fail) only [r264_0, r264_1, r264_2, r264_5, r264_6, r264_7, r264_10, r264_11, r264_12, r264_18, r264_21, r264_22, r264_23, r264_24, r264_30, r264_33, r264_34, r264_38, r264_39, r264_40, r264_44, r264_45, r264_46, r264_49, r264_50, r264_51, mh_o h, mh_put h, pm_1, pm_0, q264_15 m_isIn, q264_35 (m_refuse h) h.ci, b2i_eq0, i64_lt, i64_le, i2l_toInt, Int64.reduceToInt, h1, WPo_some, List.getElem?_cons_succ, List.getElem?_cons_zero, kil_n, kil_i, kil_a, kil_u, kil_l, Option.toList_some, Option.toList_none, List.cons_append, List.nil_append, List.set_cons_succ, List.set_cons_zero, addm1, Nat.reduceAdd, List.length_cons, List.length_nil, Nat.reduceLT, not_true_eq_false, not_false_eq_true, if_true, if_false, or_self, and_self, true_and, and_true, or_true, true_or, false_or, or_false, false_and, and_false, vu_vu, show ¬ (5 : Int32) = 0 by decide]
end TN3

/-! Engines of the class: engine -/
noncomputable def neSt (en : Nat) (sr : Nat → Int32) (mn : Nat → Nat) (tn : Nat → Nat → Int64) (many wheels tray : Int32) : Int32 := if ¬ (0 ≤ tray.toInt ∧ tray.toInt ≤ 3) then 1 else if sr tray.toInt.toNat = -1 then 3 else if ¬ ((2 ≤ many.toInt ∧ many.toInt ≤ 7) ∧ 1 ≤ wheels.toInt ∧ wheels.toInt ≤ 12) then 5 else if mn tray.toInt.toNat < wheels.toInt then 4 else if ¬ (∀ j, j < wheels.toInt.toNat → 2 ≤ tn tray.toInt.toNat j ∧ tn tray.toInt.toNat j ≤ 12) then 5 else if en = 4 then 7 else 0
noncomputable def jO (A : Nat → Nat) (n l b : Int32) : aE := .inr (6, [.ref (A 55), .ref (A 56), .ref (A 57), .ref (A 58), .ref (A 59), .ref (A 60), .int n, .int l, .int b])
section ENG6
variable {E : aEnv} {c : Nat} {ah : aHp} {A : Nat → Nat} {S : Nat → aE} {tx sp : Nat} {hT tL st : Int32} {en : Nat} {ax wh : Nat → Nat} {rx : Nat → Nat → Nat} {fg : Nat → Nat → Nat → Nat} {tu ms : Nat → Nat} {mq : Nat → Nat → Nat → Nat} {sr : Nat → Int32} {mn : Nat → Nat} {tn : Nat → Nat → Int64}
theorem neSt_i {j : Nat} (hj : j < 4) {many wheels : Int32} : neSt en sr mn tn many wheels (nI j) = if sr j = -1 then 3 else if ¬ ((2 ≤ many.toInt ∧ many.toInt ≤ 7) ∧ 1 ≤ wheels.toInt ∧ wheels.toInt ≤ 12) then 5 else if mn j < wheels.toInt then 4 else if ¬ (∀ k, k < wheels.toInt.toNat → 2 ≤ tn j k ∧ tn j k ≤ 12) then 5 else if en = 4 then 7 else 0 := by
  unfold neSt
  simp only [nI_toInt (show j < 2 ^ 31 by omega), Int.toNat_natCast]
  rw [if_neg (by omega)]
theorem c_newEngSt (hO : XO E ah A) (hX : S 0 = xO A tx sp hT (nI en) tL st) (h4 : en ≤ 4) (ht : trS A S sr mn tn) {j : Nat} (hj : j < 4) {many wheels : Int32} : EV E (c + 3) 188 [.ref (A 0), .int many, .int wheels, .ref (A (73 + 2 * j))] (oh E ah A S) (some (.int (neSt en sr mn tn many wheels (nI j)))) (oh E ah A S) := by
  refine e188 ?_
  have hT1 := ht.TR hO hj
  have hm := hT1.2.2
  rw [neSt_i hj]
  by_cases h1 : sr j = -1
  · simp (disch := first | assumption | omega | decide | (simp only [List.length_cons, List.length_nil, Nat.reduceAdd, Nat.reduceLT]; done) | fail) only [r188_0, r188_0n, r188_4, r188_6, r188_8, r188_11, r188_13, r188_14, r188_15, r188_19, r188_22, r188_23, r188_24, r188_24n, r188_28, r188_29, r188_32, r188_33, r188_34, r188_34n, r188_35, r188_36, r188_39, r188_45, r188_48, r188_49, r188_50, r188_51, r188_54, r188_55, r188_58, r188_59, r188_62, r188_64, q188_1 (c_filled hT1), oGF_is, WPo_some, List.getElem?_cons_succ, List.getElem?_cons_zero, kil_n, kil_i, kil_a, kil_u, kil_l, Option.toList_some, Option.toList_none, List.cons_append, List.nil_append, List.set_cons_succ, List.set_cons_zero, addm1, Nat.reduceAdd, List.length_cons, List.length_nil, Nat.reduceLT, h1, not_true_eq_false, not_false_eq_true, if_true, if_false, or_self, and_self, true_and, and_true, or_true, true_or, false_or, or_false, false_and, and_false, show ¬ (3 : Int32) = 0 by decide]
  · by_cases h2 : (2 ≤ many.toInt ∧ many.toInt ≤ 7) ∧ 1 ≤ wheels.toInt ∧ wheels.toInt ≤ 12
    · have h2' : canH many wheels := h2
      obtain ⟨w, hw, rfl⟩ := i32_nat (x := wheels) (n := 13) (by omega) (by omega)
      have ew := nI_toInt (show w < 2 ^ 31 by omega)
      rw [ew] at h2
      by_cases h3 : mn j < w
      · simp (disch := first | assumption | omega | decide | (simp only [List.length_cons, List.length_nil, Nat.reduceAdd, Nat.reduceLT]; done) | fail) only [r188_0, r188_0n, r188_4, r188_6, r188_8, r188_11, r188_13, r188_14, r188_15, r188_19, r188_22, r188_23, r188_24, r188_24n, r188_28, r188_29, r188_32, r188_33, r188_34, r188_34n, r188_35, r188_36, r188_39, r188_45, r188_48, r188_49, r188_50, r188_51, r188_54, r188_55, r188_58, r188_59, r188_62, r188_64, q188_1 (c_filled hT1), q188_16 c_canHave, q188_25 (c_length hT1) hT1.ci, oGF_is, WPo_some, List.getElem?_cons_succ, List.getElem?_cons_zero, kil_n, kil_i, kil_a, kil_u, kil_l, Option.toList_some, Option.toList_none, List.cons_append, List.nil_append, List.set_cons_succ, List.set_cons_zero, addm1, Nat.reduceAdd, List.length_cons, List.length_nil, Nat.reduceLT, h1, h2, h2', h3, ew, b2i_eq0, not_true_eq_false, not_false_eq_true, if_true, if_false, or_self, and_self, true_and, and_true, or_true, true_or, false_or, or_false, false_and, and_false, nI_clamp, nI_toInt, nI_leL, nI_Lle, nI_ltL, nI_Llt, nI_eqL, nI_Leq, nI_leE, nI_ltE, nI_eqE, nI_eqM, nI_add, nI_addL, nI_Ladd, nI_mulL, nI_Lmul, pk_mul, pk_sub, nI_subL, nI_Lsub, i2l_nI, Int.toNat_natCast, Nat.not_lt_zero, Nat.zero_le, ifT, ifF, show (mn j : Int) < (w : Int) by omega]
      · have e1 := c_allWithin (c := c) hT1 (n := w) (lo := 2) (hi := 12) (by omega)
        by_cases h5 : ∀ k, k < w → 2 ≤ tn j k ∧ tn j k ≤ 12
        · have h5 := eq_true h5
          by_cases h6 : en = 4
          · simp (disch := first | assumption | omega | decide | (simp only [List.length_cons, List.length_nil, Nat.reduceAdd, Nat.reduceLT]; done) | fail) only [r188_0, r188_0n, r188_4, r188_6, r188_8, r188_11, r188_13, r188_14, r188_15, r188_19, r188_22, r188_23, r188_24, r188_24n, r188_28, r188_29, r188_32, r188_33, r188_34, r188_34n, r188_35, r188_36, r188_39, r188_45, r188_48, r188_49, r188_50, r188_51, r188_54, r188_55, r188_58, r188_59, r188_62, r188_64, q188_1 (c_filled hT1), q188_16 c_canHave, q188_25 (c_length hT1) hT1.ci, q188_42 e1 hT1.ci, oGF_is, WPo_some, List.getElem?_cons_succ, List.getElem?_cons_zero, kil_n, kil_i, kil_a, kil_u, kil_l, Option.toList_some, Option.toList_none, List.cons_append, List.nil_append, List.set_cons_succ, List.set_cons_zero, addm1, Nat.reduceAdd, List.length_cons, List.length_nil, Nat.reduceLT, h1, h2, h2', h3, h5, h6, ew, b2i_eq0, not_true_eq_false, not_false_eq_true, if_true, if_false, or_self, and_self, true_and, and_true, or_true, true_or, false_or, or_false, false_and, and_false, nI_clamp, nI_toInt, nI_leL, nI_Lle, nI_ltL, nI_Llt, nI_eqL, nI_Leq, nI_leE, nI_ltE, nI_eqE, nI_eqM, nI_add, nI_addL, nI_Ladd, nI_mulL, nI_Lmul, pk_mul, pk_sub, nI_subL, nI_Lsub, i2l_nI, Int.toNat_natCast, Nat.not_lt_zero, Nat.zero_le, ifT, ifF, show ¬ (mn j : Int) < (w : Int) by omega, Int.toNat_natCast, hx_0 hO, hX, xO]
          · simp (disch := first | assumption | omega | decide | (simp only [List.length_cons, List.length_nil, Nat.reduceAdd, Nat.reduceLT]; done) | fail) only [r188_0, r188_0n, r188_4, r188_6, r188_8, r188_11, r188_13, r188_14, r188_15, r188_19, r188_22, r188_23, r188_24, r188_24n, r188_28, r188_29, r188_32, r188_33, r188_34, r188_34n, r188_35, r188_36, r188_39, r188_45, r188_48, r188_49, r188_50, r188_51, r188_54, r188_55, r188_58, r188_59, r188_62, r188_64, q188_1 (c_filled hT1), q188_16 c_canHave, q188_25 (c_length hT1) hT1.ci, q188_42 e1 hT1.ci, oGF_is, WPo_some, List.getElem?_cons_succ, List.getElem?_cons_zero, kil_n, kil_i, kil_a, kil_u, kil_l, Option.toList_some, Option.toList_none, List.cons_append, List.nil_append, List.set_cons_succ, List.set_cons_zero, addm1, Nat.reduceAdd, List.length_cons, List.length_nil, Nat.reduceLT, h1, h2, h2', h3, h5, h6, ew, b2i_eq0, not_true_eq_false, not_false_eq_true, if_true, if_false, or_self, and_self, true_and, and_true, or_true, true_or, false_or, or_false, false_and, and_false, nI_clamp, nI_toInt, nI_leL, nI_Lle, nI_ltL, nI_Llt, nI_eqL, nI_Leq, nI_leE, nI_ltE, nI_eqE, nI_eqM, nI_add, nI_addL, nI_Ladd, nI_mulL, nI_Lmul, pk_mul, pk_sub, nI_subL, nI_Lsub, i2l_nI, Int.toNat_natCast, Nat.not_lt_zero, Nat.zero_le, ifT, ifF, show ¬ (mn j : Int) < (w : Int) by omega, Int.toNat_natCast, hx_0 hO, hX, xO]
        · simp (disch := first | assumption | omega | decide | (simp only [List.length_cons, List.length_nil, Nat.reduceAdd, Nat.reduceLT]; done) | fail) only [r188_0, r188_0n, r188_4, r188_6, r188_8, r188_11, r188_13, r188_14, r188_15, r188_19, r188_22, r188_23, r188_24, r188_24n, r188_28, r188_29, r188_32, r188_33, r188_34, r188_34n, r188_35, r188_36, r188_39, r188_45, r188_48, r188_49, r188_50, r188_51, r188_54, r188_55, r188_58, r188_59, r188_62, r188_64, q188_1 (c_filled hT1), q188_16 c_canHave, q188_25 (c_length hT1) hT1.ci, q188_42 e1 hT1.ci, oGF_is, WPo_some, List.getElem?_cons_succ, List.getElem?_cons_zero, kil_n, kil_i, kil_a, kil_u, kil_l, Option.toList_some, Option.toList_none, List.cons_append, List.nil_append, List.set_cons_succ, List.set_cons_zero, addm1, Nat.reduceAdd, List.length_cons, List.length_nil, Nat.reduceLT, h1, h2, h2', h3, h5, ew, b2i_eq0, not_true_eq_false, not_false_eq_true, if_true, if_false, or_self, and_self, true_and, and_true, or_true, true_or, false_or, or_false, false_and, and_false, nI_clamp, nI_toInt, nI_leL, nI_Lle, nI_ltL, nI_Llt, nI_eqL, nI_Leq, nI_leE, nI_ltE, nI_eqE, nI_eqM, nI_add, nI_addL, nI_Ladd, nI_mulL, nI_Lmul, pk_mul, pk_sub, nI_subL, nI_Lsub, i2l_nI, Int.toNat_natCast, Nat.not_lt_zero, Nat.zero_le, ifT, ifF, show ¬ (mn j : Int) < (w : Int) by omega, Int.toNat_natCast]
    · have h2' : ¬ canH many wheels := h2
      simp (disch := first | assumption | omega | decide | (simp only [List.length_cons, List.length_nil, Nat.reduceAdd, Nat.reduceLT]; done) | fail) only [r188_0, r188_0n, r188_4, r188_6, r188_8, r188_11, r188_13, r188_14, r188_15, r188_19, r188_22, r188_23, r188_24, r188_24n, r188_28, r188_29, r188_32, r188_33, r188_34, r188_34n, r188_35, r188_36, r188_39, r188_45, r188_48, r188_49, r188_50, r188_51, r188_54, r188_55, r188_58, r188_59, r188_62, r188_64, q188_1 (c_filled hT1), q188_16 c_canHave, oGF_is, WPo_some, List.getElem?_cons_succ, List.getElem?_cons_zero, kil_n, kil_i, kil_a, kil_u, kil_l, Option.toList_some, Option.toList_none, List.cons_append, List.nil_append, List.set_cons_succ, List.set_cons_zero, addm1, Nat.reduceAdd, List.length_cons, List.length_nil, Nat.reduceLT, h1, h2, h2', b2i_eq0, not_true_eq_false, not_false_eq_true, if_true, if_false, or_self, and_self, true_and, and_true, or_true, true_or, false_or, or_false, false_and, and_false]
theorem x_engine_no (hN : XN E ah A en) (hX : S 0 = xO A tx sp hT (nI en) tL st) (h4 : en ≤ 4) (ht : trS A S sr mn tn) {many wheels tray : Int32} (hs : ¬ neSt en sr mn tn many wheels tray = 0) : EV E (c + 4) 150 [.ref (A 0), .int many, .int wheels, .int tray] (oh E ah A S) (some (.int (-1))) (oh E ah A (su S 0 (xO A tx sp hT (nI en) tL (neSt en sr mn tn many wheels tray)))) := by
  refine e150 ?_
  have hO := hN.O
  have hc := hO.c0 hX
  have hX' := hX
  by_cases h1 : 0 ≤ tray.toInt ∧ tray.toInt ≤ 3
  · obtain ⟨j, hj, rfl⟩ := i32_nat (n := 4) h1.1 (by omega)
    unfold xO at hX' ⊢
    simp (disch := first | assumption | omega | decide | (simp only [List.length_cons, List.length_nil, Nat.reduceAdd, Nat.reduceLT]; done) | fail) only [r150_0, r150_1, r150_5, r150_5n, r150_7, r150_8, r150_9, r150_10, r150_11, r150_11n, r150_16, r150_19, r150_20, r150_23, r150_26, r150_27, q150_2 (c_trayAt hO hX ht hj) hc, q150_13 (c_newEngSt hO hX h4 ht hj) hc, oGF_is, WPo_some, List.getElem?_cons_succ, List.getElem?_cons_zero, kil_n, kil_i, kil_a, kil_u, kil_l, Option.toList_some, Option.toList_none, List.cons_append, List.nil_append, List.set_cons_succ, List.set_cons_zero, addm1, Nat.reduceAdd, List.length_cons, List.length_nil, Nat.reduceLT, hs, not_true_eq_false, not_false_eq_true, if_true, if_false, or_self, and_self, true_and, and_true, or_true, true_or, false_or, or_false, false_and, and_false, hx_0 hO, hX', pf_10150, sx_0 hO, su_at]
  · have e1 : neSt en sr mn tn many wheels tray = 1 := if_pos h1
    have e2 : EV E (c + 3) 188 [.ref (A 0), .int many, .int wheels, .null] (oh E ah A S) (some (.int 1)) (oh E ah A S) := by
      refine e188n3 ?_
      simp (disch := first | assumption | omega | decide | (simp only [List.length_cons, List.length_nil, Nat.reduceAdd, Nat.reduceLT]; done) | fail) only [r188_0, r188_0n, r188_4, r188_6, r188_8, r188_11, r188_13, r188_14, r188_15, r188_19, r188_22, r188_23, r188_24, r188_24n, r188_28, r188_29, r188_32, r188_33, r188_34, r188_34n, r188_35, r188_36, r188_39, r188_45, r188_48, r188_49, r188_50, r188_51, r188_54, r188_55, r188_58, r188_59, r188_62, r188_64, q188_1n0 c_filled_no, oGF_is, WPo_some, List.getElem?_cons_succ, List.getElem?_cons_zero, kil_n, kil_i, kil_a, kil_u, kil_l, Option.toList_some, Option.toList_none, List.cons_append, List.nil_append, List.set_cons_succ, List.set_cons_zero, addm1, Nat.reduceAdd, List.length_cons, List.length_nil, Nat.reduceLT, not_true_eq_false, not_false_eq_true, if_true, if_false, or_self, and_self, true_and, and_true, or_true, true_or, false_or, or_false, false_and, and_false, show ¬ (1 : Int32) = 0 by decide]
    rw [e1]
    unfold xO at hX' ⊢
    simp (disch := first | assumption | omega | decide | (simp only [List.length_cons, List.length_nil, Nat.reduceAdd, Nat.reduceLT]; done) | fail) only [r150_0, r150_1, r150_5, r150_5n, r150_7, r150_8, r150_9, r150_10, r150_11, r150_11n, r150_16, r150_19, r150_20, r150_23, r150_26, r150_27, q150_2 (c_trayAt_no h1) hc, q150_13n3 e2 hc, oGF_is, WPo_some, List.getElem?_cons_succ, List.getElem?_cons_zero, kil_n, kil_i, kil_a, kil_u, kil_l, Option.toList_some, Option.toList_none, List.cons_append, List.nil_append, List.set_cons_succ, List.set_cons_zero, addm1, Nat.reduceAdd, List.length_cons, List.length_nil, Nat.reduceLT, not_true_eq_false, not_false_eq_true, if_true, if_false, or_self, and_self, true_and, and_true, or_true, true_or, false_or, or_false, false_and, and_false, hx_0 hO, hX', pf_10150, sx_0 hO, su_at, show ¬ (1 : Int32) = 0 by decide]
theorem neSt_0 {many wheels tray : Int32} (h : neSt en sr mn tn many wheels tray = 0) : ∃ a w j, many = nI a ∧ wheels = nI w ∧ tray = nI j ∧ j < 4 ∧ ¬ sr j = -1 ∧ (2 ≤ a ∧ a ≤ 7) ∧ (1 ≤ w ∧ w ≤ 12) ∧ w ≤ mn j ∧ (∀ k, k < w → 2 ≤ tn j k ∧ tn j k ≤ 12) ∧ ¬ en = 4 := by
  unfold neSt at h
  repeat' split at h
  all_goals first | (exfalso; revert h; decide) | skip
  rename_i h1 h2 h3 h5 h6 h7
  obtain ⟨a, ha, rfl⟩ := i32_nat (x := many) (n := 8) (by omega) (by omega)
  obtain ⟨w, hw, rfl⟩ := i32_nat (x := wheels) (n := 13) (by omega) (by omega)
  obtain ⟨j, hj, rfl⟩ := i32_nat (x := tray) (n := 4) (by omega) (by omega)
  rw [nI_toInt (show j < 2 ^ 31 by omega), Int.toNat_natCast] at h2 h5 h6
  rw [nI_toInt (show w < 2 ^ 31 by omega)] at h3 h5 h6
  rw [nI_toInt (show a < 2 ^ 31 by omega)] at h3
  rw [Int.toNat_natCast] at h6
  exact ⟨a, w, j, rfl, rfl, rfl, hj, h2, by omega, by omega, by omega, Classical.not_not.mp h6, h7⟩
noncomputable def rxT (N : Nat → Int64) : Nat → Nat := fun w => (N w).toInt.toNat
theorem rxT_is {N : Nat → Int64} {k : Nat} (h : 2 ≤ N k ∧ N k ≤ 12) : N k = lN (rxT N k) ∧ 2 ≤ rxT N k ∧ rxT N k ≤ 12 := by
  have h1 : 2 ≤ (N k).toInt := by have := i64_le.mp h.1; exact this
  have h2 : (N k).toInt ≤ 12 := by have := i64_le.mp h.2; exact this
  refine ⟨?_, ?_, ?_⟩
  · apply Int64.toInt_inj.mp
    unfold rxT
    rw [lN_toInt (by omega)]
    omega
  · unfold rxT; omega
  · unfold rxT; omega
theorem c_partAnew (hO : XO E ah A) {n l b : Int32} (hJ : S 54 = jO A n l b) : EV E c 91 [.ref (A 54)] (oh E ah A S) none (oh E ah A (su S 54 (jO A n l 0))) := by
  refine e91 ?_
  unfold jO at hJ ⊢
  simp (disch := first | assumption | omega | decide | (simp only [List.length_cons, List.length_nil, Nat.reduceAdd, Nat.reduceLT]; done) | fail) only [r91_0, r91_1, r91_2, r91_5, hx_54 hO, hJ, pf_6083 (Or.inl rfl), sx_54 hO, oGF_is, WPo_some, List.getElem?_cons_succ, List.getElem?_cons_zero, kil_n, kil_i, kil_a, kil_u, kil_l, Option.toList_some, Option.toList_none, List.cons_append, List.nil_append, List.set_cons_succ, List.set_cons_zero, addm1, Nat.reduceAdd, List.length_cons, List.length_nil, Nat.reduceLT, not_true_eq_false, not_false_eq_true, if_true, if_false, or_self, and_self, true_and, and_true, or_true, true_or, false_or, or_false, false_and, and_false]
theorem x_engine_ok (hW : NW E ah A (81 + 11 * en)) (hX : S 0 = xO A tx sp hT (nI en) tL st) (h : enS A S en ax wh rx fg tu ms mq) (ht : trS A S sr mn tn) {n l b : Int32} (hJ : S 54 = jO A n l b) {a w j : Nat} (hj : j < 4) (hne : ¬ sr j = -1) (ha : 2 ≤ a ∧ a ≤ 7) (hw : 1 ≤ w ∧ w ≤ 12) (hwm : w ≤ mn j) (hr : ∀ k, k < w → 2 ≤ tn j k ∧ tn j k ≤ 12) (hen : ¬ en = 4) : ∃ S', EV E (c + 4) 150 [.ref (A 0), .int (nI a), .int (nI w), .int (nI j)] (oh E ah A S) (some (.int (nI en))) (oh E (ah ++ dR 11) A S') ∧ S' 0 = xO A tx sp hT (nI (en + 1)) tL 0 ∧ enS A S' (en + 1) (fnu ax en a) (fnu wh en w) (fnu rx en (rxT (tn j))) (fnu fg en (fun _ _ => 0)) (fnu tu en 0) (fnu ms en 0) mq ∧ S' 54 = jO A n l 0 ∧ ∀ q, ¬ (q = 0 ∨ q = 2 ∨ q = 54) → q < 81 → S' q = S q := by
  have hN : XN E ah A en := ⟨hW.1, hW.2.1⟩
  have hO := hN.O
  have hc := hO.c0 hX
  have h4 := h.1
  have s0 : neSt en sr mn tn (nI a) (nI w) (nI j) = 0 := by
    rw [neSt_i hj, nI_toInt (by omega), nI_toInt (by omega), if_neg hne, if_neg (by omega), if_neg (by omega), Int.toNat_natCast, if_neg (not_not_intro hr), if_neg hen]
  have hO1 : XO E (ah ++ dR 1) A := ⟨hW.1, fun k hk => hW.g (by omega)⟩
  have hO2 : XO E (ah ++ dR 11) A := ⟨hW.1, fun k hk => hW.g (by omega)⟩
  have hB2 : XB E (ah ++ dR 11) A (81 + 11 * en) := ⟨hW.1, fun q hq => hW.g (by omega)⟩
  have nOe : ∀ S, nO E (oh E ah A S) 2 = fun st => some (.ref (A (81 + 11 * en)) :: st, oh E (ah ++ dR 1) A (su S (81 + 11 * en) (.inr (2, dfl 2)))) := by
    intro S
    funext st
    have hl := hW.2.2.2
    have p := hW.push (S := S) (n := 0) (e := .inr (2, dfl 2))
    have p0 := hW.2.2.1 0
    rw [Nat.add_zero] at p p0
    unfold nO
    rw [if_neg (by rw [oh_len]; unfold lim; omega), oh_len, p0, Nat.add_zero]
    rw [show ah ++ dR 0 = ah from List.append_nil _] at p
    rw [p]
    rfl
  have k1 := c_ctor (c := c + 1) (S := su S 0 (xO A tx sp hT (nI en) tL 0)) hW (by omega) ht.x hj ha hw hwm (r := rxT (tn j)) (fun k hk => rxT_is (hr k hk))
  have gq : ∀ q, q < 11 → eSt A (su S 0 (xO A tx sp hT (nI en) tL 0)) (81 + 11 * en) a w (lN (wt (rxT (tn j)) w)) 0 0 (iu (fun _ _ => 0) 6 (ovr (fun _ => 0) 0 w (fun w => nI (rxT (tn j) w)))) (lu (fun _ _ => 0) 7 (ovr (fun _ => 0) 0 w (fun k => lN (wt (rxT (tn j)) k)))) (81 + 11 * en + q) = eC A (81 + 11 * en) a w (lN (wt (rxT (tn j)) w)) 0 0 (iu (fun _ _ => 0) 6 (ovr (fun _ => 0) 0 w (fun w => nI (rxT (tn j) w)))) (lu (fun _ _ => 0) 7 (ovr (fun _ => 0) 0 w (fun k => lN (wt (rxT (tn j)) k)))) q := fun q hq => eSt_q hq
  have go : ∀ q, q < 81 + 11 * en → eSt A (su S 0 (xO A tx sp hT (nI en) tL 0)) (81 + 11 * en) a w (lN (wt (rxT (tn j)) w)) 0 0 (iu (fun _ _ => 0) 6 (ovr (fun _ => 0) 0 w (fun w => nI (rxT (tn j) w)))) (lu (fun _ _ => 0) 7 (ovr (fun _ => 0) 0 w (fun k => lN (wt (rxT (tn j)) k)))) q = su S 0 (xO A tx sp hT (nI en) tL 0) q := fun q hq => eSt_o (by omega)
  revert k1 gq go
  generalize eSt A (su S 0 (xO A tx sp hT (nI en) tL 0)) (81 + 11 * en) a w (lN (wt (rxT (tn j)) w)) 0 0 (iu (fun _ _ => 0) 6 (ovr (fun _ => 0) 0 w (fun w => nI (rxT (tn j) w)))) (lu (fun _ _ => 0) 7 (ovr (fun _ => 0) 0 w (fun k => lN (wt (rxT (tn j)) k)))) = T
  intro k1 gq go
  have hT2 : T 2 = .inl (5, 4, .inr (.inr (.inr (.inr (fun i => if i < en then some (A (81 + 11 * i)) else none))))) := by
    rw [go 2 (by omega), su_ne (by decide)]
    exact h.2.1
  have hTK : hg E (oh E (ah ++ dR 11) A T) (A (81 + 11 * en)) = some (eO A (81 + 11 * en) a w (lN (wt (rxT (tn j)) w)) 0 0) := (NW_hg hW (by omega)).trans (by have g0 := gq 0 (by decide); rw [Nat.add_zero] at g0; rw [g0]; rfl)
  have pAe : ∀ r, pA E (oh E (ah ++ dR 11) A T) (.ref (A (81 + 11 * en)) :: .int (nI en) :: .ref (A 2) :: r) = some (r, oh E (ah ++ dR 11) A (su T 2 (.inl (5, 4, .inr (.inr (.inr (.inr (fun i => if i < en + 1 then some (A (81 + 11 * i)) else none)))))))) := by
    intro r
    have hf : va_up (fun i => if i < en then some (A (81 + 11 * i)) else none) en (some (A (81 + 11 * en))) = fun i => if i < en + 1 then some (A (81 + 11 * i)) else none := by
      funext i
      unfold va_up
      dsimp only
      by_cases z : i = en
      · rw [if_pos z, if_pos (by omega), z]
      · rw [if_neg z]
        by_cases y : i < en
        · rw [if_pos y, if_pos (by omega)]
        · rw [if_neg y, if_neg (by omega)]
    have h2 := (hx_2 (S := T) hO2).trans (by rw [hT2])
    unfold pA
    unfold eO at hTK
    simp only [h2, hTK]
    rw [nI_clamp (by omega), hf, sx_2 hO2, if_neg]
    have z : ¬ nI en < 0 := by rw [nI_ltL (by omega) (by decide)]; omega
    have z2 : (2 : Nat) = cO 5 := rfl
    have z3 : ¬ 4 ≤ en := by omega
    simp [z, z2, z3]
  have hT54 : su T 2 (.inl (5, 4, .inr (.inr (.inr (.inr (fun i => if i < en + 1 then some (A (81 + 11 * i)) else none)))))) 54 = jO A n l b := by
    rw [su_ne (by decide), go 54 (by omega), su_ne (by decide)]
    exact hJ
  have hT0 : ∀ S' : Nat → aE, S' 0 = T 0 → S' 0 = xO A tx sp hT (nI en) tL 0 := fun S' z => by rw [z, go 0 (by omega), su_at]
  refine ⟨su (su (su T 2 (.inl (5, 4, .inr (.inr (.inr (.inr (fun i => if i < en + 1 then some (A (81 + 11 * i)) else none))))))) 54 (jO A n l 0)) 0 (xO A tx sp hT (nI (en + 1)) tL 0), e150 ?_, su_at, ?_, ?_, ?_⟩
  · have hX' := hX
    have o1 := hT0 (su T 2 (.inl (5, 4, .inr (.inr (.inr (.inr (fun i => if i < en + 1 then some (A (81 + 11 * i)) else none))))))) (su_ne (by decide))
    have o2 := hT0 (su (su T 2 (.inl (5, 4, .inr (.inr (.inr (.inr (fun i => if i < en + 1 then some (A (81 + 11 * i)) else none))))))) 54 (jO A n l 0)) (by rw [su_ne (by decide), su_ne (by decide)])
    have c6 : oCI (hg E (oh E (ah ++ dR 11) A (su T 2 (.inl (5, 4, .inr (.inr (.inr (.inr (fun i => if i < en + 1 then some (A (81 + 11 * i)) else none)))))))) (A 54)) = 6 := by
      rw [hx_54 hO2, hT54]
      rfl
    have kp := c_partAnew (c := c + 3) hO2 hT54
    unfold xO at hX' k1 o1 o2 ⊢
    simp (disch := first | assumption | omega | decide | (simp only [List.length_cons, List.length_nil, Nat.reduceAdd, Nat.reduceLT]; done) | fail) only [r150_0, r150_1, r150_5, r150_5n, r150_7, r150_8, r150_9, r150_10, r150_11, r150_11n, r150_16, r150_19, r150_20, r150_23, r150_26, r150_27, r150_28, r150_29, r150_32, r150_33, r150_36, r150_39, r150_39i, r150_40, r150_41, r150_42, r150_42n, r150_47, r150_48, r150_49, r150_55, r150_56, r150_56i, r150_57, r150_60, r150_61, r150_62, r150_65, r150_66, r150_69, r150_70, r150_71, q150_2 (c_trayAt hO hX ht hj) hc, q150_13 (c_newEngSt hO hX h4 ht hj) hc, nOe, q150_44 k1, pAe, q150_52 kp c6, oGF_is, WPo_some, List.getElem?_cons_succ, List.getElem?_cons_zero, kil_n, kil_i, kil_a, kil_u, kil_l, Option.toList_some, Option.toList_none, List.cons_append, List.nil_append, List.set_cons_succ, List.set_cons_zero, addm1, Nat.reduceAdd, List.length_cons, List.length_nil, Nat.reduceLT, s0, not_true_eq_false, not_false_eq_true, if_true, if_false, or_self, and_self, true_and, and_true, or_true, true_or, false_or, or_false, false_and, and_false, hx_0 hO, hx_0 hO1, hx_0 hO2, hX', o1, o2, pf_10150, pf_10130, sx_0 hO, sx_0 hO2, su_at, nI_clamp, nI_toInt, nI_leL, nI_Lle, nI_ltL, nI_Llt, nI_eqL, nI_Leq, nI_leE, nI_ltE, nI_eqE, nI_eqM, nI_add, nI_addL, nI_Ladd, nI_mulL, nI_Lmul, pk_mul, pk_sub, nI_subL, nI_Lsub, i2l_nI, Int.toNat_natCast, Nat.not_lt_zero, Nat.zero_le, ifT, ifF, Nat.add_sub_cancel]
  · refine ⟨by omega, by rw [su_ne (by decide), su_ne (by decide), su_at], fun e he => ?_⟩
    by_cases z : e = en
    · subst z
      simp only [fnu, if_true]
      refine ⟨by omega, iu (fun _ _ => 0) 6 (ovr (fun _ => 0) 0 w (fun w => nI (rxT (tn j) w))), lu (fun _ _ => 0) 7 (ovr (fun _ => 0) 0 w (fun k => lN (wt (rxT (tn j)) k))), ?_, fun q hq => ?_⟩
      rotate_left
      · rw [su_ne (by omega), su_ne (by omega), su_ne (by omega)]
        exact gq q hq
      · refine ⟨by omega, fun k hk => ?_, fun k hk => ?_, fun x k hx hk => ?_, fun x k hx hk => ?_, by omega, fun k hk => absurd hk (by omega)⟩
        · rw [iu_at, ovr0_in hk]
          exact ⟨rfl, (rxT_is (hr k hk)).2⟩
        · rw [lu_at, ovr0_in hk]
        · rw [iu_ne (by decide)]
          exact ⟨rfl, Nat.lt_of_lt_of_le (show 0 < 2 by decide) (rxT_is (hr k hk)).2.1⟩
        · rw [iu_ne (by decide)]
    · obtain ⟨g1, ei, el, g2, g3⟩ := h.2.2 e (by omega)
      simp only [fnu, z, if_false]
      exact ⟨g1, ei, el, g2, fun q hq => by
        rw [su_ne (by omega), su_ne (by omega), su_ne (by omega), go _ (by omega), su_ne (by omega)]
        exact g3 q hq⟩
  · rw [su_ne (by decide), su_at]
  · intro q h1 h2
    rw [su_ne (by omega), su_ne (by omega), su_ne (by omega), go q (by omega), su_ne (by omega)]
end ENG6

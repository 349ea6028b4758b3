/-! Plates of the class: tell, print, says, wrong, bad -/
section PLX2
variable {E : aEnv} {c : Nat} {ah : aHp} {A : Nat → Nat} {S : Nat → aE} {f : Nat → Nat → Int32} {n q t : Nat} {d : Int32} {tx sp : Nat} {hT eC tL st : Int32}
theorem c_addTell (hO : XO E ah A) (h : plS A S f n q t d) (ht : t < 60) {day row num : Int32} : EV E (c + 1) 124 [.ref (A 46), .int day, .int row, .int num] (oh E ah A S) none (oh E ah A (su (su (su (su (su S 46 (plO (fun k => A (47 + k)) n q t day)) 51 (.inl (0, 60, .inl (upd (f 4) t day)))) 52 (.inl (0, 60, .inl (upd (f 5) t row)))) 53 (.inl (0, 60, .inl (upd (f 6) t num)))) 46 (plO (fun k => A (47 + k)) n q (t + 1) day))) := by
  refine e124 ?_
  simp only [r124_0, r124_4, r124_7, r124_8, r124_9, r124_10, r124_13, r124_14, r124_17, r124_18, r124_21, r124_22, r124_23, r124_24, r124_27, r124_28, r124_31, r124_32, r124_33, r124_34, r124_37, r124_38, r124_41, r124_42, r124_43, r124_44, r124_44i, r124_45, r124_48, r124_49, r124_50, r124_53, q124_1 (c_tellsFull (h.PL hO)) (hO.c46 h), oGF_is, WPo_some, List.getElem?_cons_succ, List.getElem?_cons_zero, kil_n, kil_i, kil_a, kil_u, kil_l, Option.toList_some, Option.toList_none, List.cons_append, List.nil_append, List.set_cons_succ, List.set_cons_zero, addm1, Nat.reduceAdd, List.length_cons, List.length_nil, Nat.reduceLT, b2i_eq0, show ¬ 60 ≤ t by omega, not_false_eq_true, if_true, hx_46 hO, hx_51 hO, hx_52 hO, hx_53 hO, sx_46 hO, sx_51 hO, sx_52 hO, sx_53 hO, su, h.1, h.2.2.2.2.2.1, h.2.2.2.2.2.2.1, h.2.2.2.2.2.2.2.1, plO, pf_8100, pf_8090, Nat.reduceEqDiff, if_false, pI, nI_pos (show t < 2 ^ 31 by omega), or_self, nI_clamp (show t < 2 ^ 31 by omega), nI_1]
  simp
theorem p_addTell (h : plS A S f n q t d) (ht : t < 60) {day row num : Int32} : plS A (su (su (su (su (su S 46 (plO (fun k => A (47 + k)) n q t day)) 51 (.inl (0, 60, .inl (upd (f 4) t day)))) 52 (.inl (0, 60, .inl (upd (f 5) t row)))) 53 (.inl (0, 60, .inl (upd (f 6) t num)))) 46 (plO (fun k => A (47 + k)) n q (t + 1) day)) (fu (fu (fu f 4 t day) 5 t row) 6 t num) n q (t + 1) day := by
  obtain ⟨h0, h1, h2, h3, h4, h5, h6, h7, h8, h9, h10⟩ := h
  refine ⟨?_, ?_, ?_, ?_, ?_, ?_, ?_, ?_, h8, h9, by omega⟩ <;> simp [su, fu, *]
theorem x_tell_no (hO : XO E ah A) (hX : S 0 = xO A tx sp hT eC tL st) (h : plS A S f n q t d) {day row num : Int32} (hs : ¬ rowSt d day row num (60 ≤ t) = 0) : EV E (c + 2) 175 [.ref (A 0), .int day, .int row, .int num] (oh E ah A S) (some (.int 0)) (oh E ah A (su S 0 (xO A tx sp hT eC tL (rowSt d day row num (60 ≤ t))))) := by
  refine e175 ?_
  simp only [r175_0, r175_1, r175_2, r175_5, r175_6, r175_7, r175_8, r175_9, r175_18, r175_21, r175_22, r175_25, r175_28, r175_29, r175_32, r175_33, r175_34, r175_38, r175_39, r175_42, r175_45, r175_46, r175_49, r175_50 (x := 0) (Or.inl rfl), r175_50 (x := 1) (Or.inr rfl), r175_50 (b2i_or _), hx_0 hO, hX, xO, oGF_is, WPo_some, List.getElem?_cons_succ, List.getElem?_cons_zero, kil_n, kil_i, kil_a, kil_u, kil_l, Option.toList_some, Option.toList_none, List.cons_append, List.nil_append, List.set_cons_succ, List.set_cons_zero, addm1, Nat.reduceAdd, List.length_cons, List.length_nil, Nat.reduceLT, q175_12 (c_tellsFull (h.PL hO)) (hO.c46 h), q175_15 (c_rowStatus (h.PL hO)) (hO.c46 h), pf_10150, sx_0 hO, su, hs, not_true_eq_false, not_false_eq_true, if_true, if_false, or_self, and_self, true_and, and_true, or_true, true_or, false_or, or_false, false_and, and_false]
theorem plS.x (h : plS A S f n q t d) {e : aE} : plS A (su S 0 e) f n q t d := by
  obtain ⟨h0, h1, h2, h3, h4, h5, h6, h7, h8, h9, h10⟩ := h
  refine ⟨?_, ?_, ?_, ?_, ?_, ?_, ?_, ?_, h8, h9, h10⟩ <;> simp [su, *]
theorem x_tell_ok (hO : XO E ah A) (hX : S 0 = xO A tx sp hT eC tL st) (h : plS A S f n q t d) {day row num : Int32} (hs : rowSt d day row num (60 ≤ t) = 0) : ∃ S', EV E (c + 2) 175 [.ref (A 0), .int day, .int row, .int num] (oh E ah A S) (some (.int 1)) (oh E ah A S') ∧ S' 0 = xO A tx sp hT eC tL 0 ∧ plS A S' (fu (fu (fu f 4 t day) 5 t row) 6 t num) n q (t + 1) day ∧ ∀ k, k ≠ 0 → (k < 46 ∨ 53 < k) → S' k = S k := by
  obtain ⟨s1, s2, s3, s4⟩ := rowSt_0 hs
  have ht : t < 60 := by omega
  have h' : plS A (su S 0 (xO A tx sp hT eC tL 0)) f n q t d := h.x
  refine ⟨_, e175 ?_, ?_, p_addTell h' ht, ?_⟩
  · unfold xO at h' hX ⊢
    simp only [r175_0, r175_1, r175_2, r175_5, r175_6, r175_7, r175_8, r175_9, r175_18, r175_21, r175_22, r175_25, r175_28, r175_29, r175_32, r175_33, r175_34, r175_38, r175_39, r175_42, r175_45, r175_46, r175_49, r175_50 (x := 0) (Or.inl rfl), r175_50 (x := 1) (Or.inr rfl), r175_50 (b2i_or _), hx_0 hO, hX, oGF_is, WPo_some, List.getElem?_cons_succ, List.getElem?_cons_zero, kil_n, kil_i, kil_a, kil_u, kil_l, Option.toList_some, Option.toList_none, List.cons_append, List.nil_append, List.set_cons_succ, List.set_cons_zero, addm1, Nat.reduceAdd, List.length_cons, List.length_nil, Nat.reduceLT, q175_12 (c_tellsFull (h.PL hO)) (hO.c46 h), q175_15 (c_rowStatus (h.PL hO)) (hO.c46 h), pf_10150, sx_0 hO, su, hs, not_true_eq_false, not_false_eq_true, if_true, if_false, or_self, and_self, true_and, and_true, or_true, true_or, false_or, or_false, false_and, and_false, q175_35 (c_addTell hO h' ht) (hO.c46 h'), Nat.reduceEqDiff]
  · simp [su]
  · intro k h1 h2
    have e1 : ¬ k = 46 := by omega
    have e2 : ¬ k = 51 := by omega
    have e3 : ¬ k = 52 := by omega
    have e4 : ¬ k = 53 := by omega
    simp [su, h1, e1, e2, e3, e4]
theorem c_addPrint (hO : XO E ah A) (h : plS A S f n q t d) (hq : q < 20) {day copies : Int32} : EV E (c + 1) 125 [.ref (A 46), .int day, .int copies] (oh E ah A S) (some (.int (cpz (f 2) q + copies))) (oh E ah A (su (su (su (su S 46 (plO (fun k => A (47 + k)) n q t day)) 49 (.inl (0, 20, .inl (upd (f 2) q (cpz (f 2) q + copies))))) 50 (.inl (0, 20, .inl (upd (f 3) q (nI n))))) 46 (plO (fun k => A (47 + k)) n (q + 1) t day))) := by
  have h' : plS A (su S 46 (plO (fun k => A (47 + k)) n q t day)) f n q t day := by
    obtain ⟨h0, h1, h2, h3, h4, h5, h6, h7, h8, h9, h10⟩ := h
    refine ⟨?_, ?_, ?_, ?_, ?_, ?_, ?_, ?_, h8, h9, h10⟩ <;> simp [su, *]
  have hcb : ∀ c, EV E c 126 [.ref (A 46), .int (nI q)] (oh E ah A (su S 46 (plO (fun k => A (47 + k)) n q t day))) (some (.int (cpz (f 2) q))) (oh E ah A (su S 46 (plO (fun k => A (47 + k)) n q t day))) := fun c => c_copiesBefore (h'.PL hO) (by omega)
  have hci := hO.c46 h'
  have h1 : nI q < 20 := nI_lt (b := 20) (by omega) (by omega)
  refine e125 ?_
  unfold plO at hcb hci ⊢
  simp only [r125_0, r125_1, r125_4, r125_6, r125_9, r125_10, r125_11, r125_12, r125_13, r125_16, r125_17, r125_20, r125_21, r125_24, r125_25, r125_26, r125_32, r125_33, r125_34, r125_35, r125_36, r125_39, r125_40, r125_43, r125_44, r125_47, r125_48, r125_49, r125_49i, r125_50, r125_53, r125_54, r125_55, r125_58, r125_59, r125_62, r125_63, r125_66, r125_67, r125_68, r125_69, oGF_is, WPo_some, List.getElem?_cons_succ, List.getElem?_cons_zero, kil_n, kil_i, kil_a, kil_u, kil_l, Option.toList_some, Option.toList_none, List.cons_append, List.nil_append, List.set_cons_succ, List.set_cons_zero, addm1, Nat.reduceAdd, List.length_cons, List.length_nil, Nat.reduceLT, h1, not_true_eq_false, not_false_eq_true, if_true, if_false, or_self, and_self, true_and, and_true, or_true, true_or, false_or, or_false, false_and, and_false, hx_46 hO, hx_49 hO, hx_50 hO, sx_46 hO, sx_49 hO, sx_50 hO, su, h.1, plO, h.2.2.2.1, h.2.2.2.2.1, pf_8100, pf_8080, Nat.reduceEqDiff, pI, gI, nI_pos (show q < 2 ^ 31 by omega), show ¬ 20 ≤ q by omega, nI_clamp (show q < 2 ^ 31 by omega), nI_1, nI_pred, q125_29 (hcb _) hci]
  simp [upd]
theorem p_addPrint (h : plS A S f n q t d) (hq : q < 20) {day x : Int32} : plS A (su (su (su (su S 46 (plO (fun k => A (47 + k)) n q t day)) 49 (.inl (0, 20, .inl (upd (f 2) q x)))) 50 (.inl (0, 20, .inl (upd (f 3) q (nI n))))) 46 (plO (fun k => A (47 + k)) n (q + 1) t day)) (fu (fu f 2 q x) 3 q (nI n)) n (q + 1) t day := by
  obtain ⟨h0, h1, h2, h3, h4, h5, h6, h7, h8, h9, h10⟩ := h
  refine ⟨?_, ?_, ?_, ?_, ?_, ?_, ?_, ?_, h8, by omega, h10⟩ <;> simp [su, fu, *]
end PLX2

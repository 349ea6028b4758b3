/-! Plates of the class: what writes, and the calls of the works -/
noncomputable def plS (A : Nat → Nat) (S : Nat → aE) (f : Nat → Nat → Int32) (n q t : Nat) (d : Int32) : Prop :=
  S 46 = plO (fun k => A (47 + k)) n q t d ∧ S 47 = .inl (0, 100, .inl (f 0)) ∧ S 48 = .inl (0, 100, .inl (f 1)) ∧ S 49 = .inl (0, 20, .inl (f 2)) ∧ S 50 = .inl (0, 20, .inl (f 3)) ∧
  S 51 = .inl (0, 60, .inl (f 4)) ∧ S 52 = .inl (0, 60, .inl (f 5)) ∧ S 53 = .inl (0, 60, .inl (f 6)) ∧ n ≤ 100 ∧ q ≤ 20 ∧ t ≤ 60
/-- the works' own object -/
noncomputable def xO (A : Nat → Nat) (tx sp : Nat) (hT eC tL st : Int32) : aE := .inr (10, [.ref (A 1), .ref (A 2), .ref (A 3), .ref (A 8), .ref (A 13), .ref (A 14), .ref (A 16), .ref (A 19), .ref (A 46), .ref (A 54), .ref (A tx), .ref (A sp), .int hT, .int eC, .int tL, .int st])
section PLX
variable {E : aEnv} {c : Nat} {ah : aHp} {A : Nat → Nat} {S : Nat → aE} {f : Nat → Nat → Int32} {n q t : Nat} {d : Int32} {tx sp : Nat} {hT eC tL st : Int32}
theorem plS.PL (h : plS A S f n q t d) (hO : XO E ah A) : PL E (oh E ah A S) (A 46) (fun k => A (47 + k)) f n q t d := by
  obtain ⟨h0, h1, h2, h3, h4, h5, h6, h7, h8, h9, h10⟩ := h
  exact ⟨(hx_46 hO).trans (by rw [h0]), (hx_47 hO).trans (by rw [h1]), (hx_48 hO).trans (by rw [h2]), (hx_49 hO).trans (by rw [h3]), (hx_50 hO).trans (by rw [h4]), (hx_51 hO).trans (by rw [h5]), (hx_52 hO).trans (by rw [h6]), (hx_53 hO).trans (by rw [h7]), h8, h9, h10⟩
theorem XO.c0 (hO : XO E ah A) (h : S 0 = xO A tx sp hT eC tL st) : oCI (hg E (oh E ah A S) (A 0)) = 10 := by rw [hx_0 hO, h]; rfl
theorem XO.c46 (hO : XO E ah A) (h : plS A S f n q t d) : oCI (hg E (oh E ah A S) (A 46)) = 8 := by rw [hx_46 hO, h.1]; rfl
noncomputable def fu (f : Nat → Nat → Int32) (k i : Nat) (x : Int32) : Nat → Nat → Int32 := fun j => if j = k then upd (f k) i x else f j
theorem c_addCast (hO : XO E ah A) (h : plS A S f n q t d) (hn : n < 100) {day row num : Int32} : EV E (c + 1) 123 [.ref (A 46), .int day, .int row, .int num] (oh E ah A S) none (oh E ah A (su (su (su (su S 46 (plO (fun k => A (47 + k)) n q t day)) 47 (.inl (0, 100, .inl (upd (f 0) n row)))) 48 (.inl (0, 100, .inl (upd (f 1) n num)))) 46 (plO (fun k => A (47 + k)) (n + 1) q t day))) := by
  refine e123 ?_
  simp only [r123_0, r123_4, r123_7, r123_8, r123_9, r123_10, r123_13, r123_14, r123_17, r123_18, r123_21, r123_22, r123_23, r123_24, r123_27, r123_28, r123_31, r123_32, r123_33, r123_34, r123_34i, r123_35, r123_38, r123_39, r123_40, r123_43, q123_1 (c_castsFull (h.PL hO)) (hO.c46 h), oGF_is, WPo_some, List.getElem?_cons_succ, List.getElem?_cons_zero, kil_n, kil_i, kil_a, kil_u, kil_l, Option.toList_some, Option.toList_none, List.cons_append, List.nil_append, List.set_cons_succ, List.set_cons_zero, addm1, Nat.reduceAdd, List.length_cons, List.length_nil, Nat.reduceLT, b2i_eq0, show ¬ 100 ≤ n by omega, not_false_eq_true, if_true, hx_46 hO, hx_47 hO, hx_48 hO, sx_46 hO, sx_47 hO, sx_48 hO, su, h.1, h.2.1, h.2.2.1, plO, pf_8100, pf_8070, Nat.reduceEqDiff, if_false, pI, nI_pos (show n < 2 ^ 31 by omega), hn, show ¬ 100 ≤ n by omega, or_self, nI_clamp (show n < 2 ^ 31 by omega), nI_1]
  simp
theorem p_addCast (h : plS A S f n q t d) (hn : n < 100) {day row num : Int32} : plS A (su (su (su (su S 46 (plO (fun k => A (47 + k)) n q t day)) 47 (.inl (0, 100, .inl (upd (f 0) n row)))) 48 (.inl (0, 100, .inl (upd (f 1) n num)))) 46 (plO (fun k => A (47 + k)) (n + 1) q t day)) (fu (fu f 0 n row) 1 n num) (n + 1) q t day := by
  obtain ⟨h0, h1, h2, h3, h4, h5, h6, h7, h8, h9, h10⟩ := h
  refine ⟨?_, ?_, ?_, ?_, ?_, ?_, ?_, ?_, by omega, h9, h10⟩ <;> simp [su, fu, *]
theorem x_cast_no (hO : XO E ah A) (hX : S 0 = xO A tx sp hT eC tL st) (h : plS A S f n q t d) {day row num : Int32} (hs : ¬ rowSt d day row num (100 ≤ n) = 0) : EV E (c + 2) 173 [.ref (A 0), .int day, .int row, .int num] (oh E ah A S) (some (.int 0)) (oh E ah A (su S 0 (xO A tx sp hT eC tL (rowSt d day row num (100 ≤ n))))) := by
  refine e173 ?_
  simp only [r173_0, r173_1, r173_2, r173_5, r173_6, r173_7, r173_8, r173_9, r173_18, r173_21, r173_22, r173_25, r173_28, r173_29, r173_32, r173_33, r173_34, r173_38, r173_39, r173_42, r173_45, r173_46, r173_49, r173_50 (x := 0) (Or.inl rfl), r173_50 (x := 1) (Or.inr rfl), r173_50 (b2i_or _), hx_0 hO, hX, xO, oGF_is, WPo_some, List.getElem?_cons_succ, List.getElem?_cons_zero, kil_n, kil_i, kil_a, kil_u, kil_l, Option.toList_some, Option.toList_none, List.cons_append, List.nil_append, List.set_cons_succ, List.set_cons_zero, addm1, Nat.reduceAdd, List.length_cons, List.length_nil, Nat.reduceLT, q173_12 (c_castsFull (h.PL hO)) (hO.c46 h), q173_15 (c_rowStatus (h.PL hO)) (hO.c46 h), pf_10150, sx_0 hO, su, hs, not_true_eq_false, not_false_eq_true, if_true, if_false, or_self, and_self, true_and, and_true, or_true, true_or, false_or, or_false, false_and, and_false]
theorem x_cast_ok (hO : XO E ah A) (hX : S 0 = xO A tx sp hT eC tL st) (h : plS A S f n q t d) {day row num : Int32} (hs : rowSt d day row num (100 ≤ n) = 0) : ∃ S', EV E (c + 2) 173 [.ref (A 0), .int day, .int row, .int num] (oh E ah A S) (some (.int 1)) (oh E ah A S') ∧ S' 0 = xO A tx sp hT eC tL 0 ∧ plS A S' (fu (fu f 0 n row) 1 n num) (n + 1) q t day ∧ ∀ k, k ≠ 0 → (k < 46 ∨ 53 < k) → S' k = S k := by
  obtain ⟨s1, s2, s3, s4⟩ := rowSt_0 hs
  have hn : n < 100 := by omega
  have h' : plS A (su S 0 (xO A tx sp hT eC tL 0)) f n q t d := by
    obtain ⟨h0, h1, h2, h3, h4, h5, h6, h7, h8, h9, h10⟩ := h
    refine ⟨?_, ?_, ?_, ?_, ?_, ?_, ?_, ?_, h8, h9, h10⟩ <;> simp [su, *]
  refine ⟨_, e173 ?_, ?_, p_addCast h' hn, ?_⟩
  · unfold xO at h' hX ⊢
    simp only [r173_0, r173_1, r173_2, r173_5, r173_6, r173_7, r173_8, r173_9, r173_18, r173_21, r173_22, r173_25, r173_28, r173_29, r173_32, r173_33, r173_34, r173_38, r173_39, r173_42, r173_45, r173_46, r173_49, r173_50 (x := 0) (Or.inl rfl), r173_50 (x := 1) (Or.inr rfl), r173_50 (b2i_or _), hx_0 hO, hX, oGF_is, WPo_some, List.getElem?_cons_succ, List.getElem?_cons_zero, kil_n, kil_i, kil_a, kil_u, kil_l, Option.toList_some, Option.toList_none, List.cons_append, List.nil_append, List.set_cons_succ, List.set_cons_zero, addm1, Nat.reduceAdd, List.length_cons, List.length_nil, Nat.reduceLT, q173_12 (c_castsFull (h.PL hO)) (hO.c46 h), q173_15 (c_rowStatus (h.PL hO)) (hO.c46 h), pf_10150, sx_0 hO, su, hs, not_true_eq_false, not_false_eq_true, if_true, if_false, or_self, and_self, true_and, and_true, or_true, true_or, false_or, or_false, false_and, and_false, q173_35 (c_addCast hO h' hn) (hO.c46 h'), Nat.reduceEqDiff]
  · simp [su]
  · intro k h1 h2
    have e1 : ¬ k = 46 := by omega
    have e2 : ¬ k = 47 := by omega
    have e3 : ¬ k = 48 := by omega
    simp [su, h1, e1, e2, e3]
end PLX

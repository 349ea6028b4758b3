/-! Plates of the class: print, says, wrong, bad -/
section PLX3
variable {E : aEnv} {c : Nat} {ah : aHp} {A : Nat → Nat} {S : Nat → aE} {f : Nat → Nat → Int32} {n q t : Nat} {d : Int32} {tx sp : Nat} {hT eC tL st : Int32} {g hc : Nat → Nat}
theorem prSt_0 {day copies : Int32} (h : prSt q d day copies = 0) : ((0 ≤ day.toInt ∧ day.toInt ≤ 9999) ∧ 1 ≤ copies.toInt ∧ copies.toInt ≤ 1000) ∧ q < 20 ∧ d ≤ day := by
  unfold prSt at h
  repeat' split at h
  all_goals first | (exfalso; revert h; decide) | skip
  rename_i h2 h3 h4
  exact ⟨Classical.not_not.mp h2, by omega, by rw [i32_le]; omega⟩
theorem x_print_no (hO : XO E ah A) (hX : S 0 = xO A tx sp hT eC tL st) (h : plS A S f n q t d) {day copies : Int32} (hs : ¬ prSt q d day copies = 0) : EV E (c + 2) 174 [.ref (A 0), .int day, .int copies] (oh E ah A S) (some (.int (-1))) (oh E ah A (su S 0 (xO A tx sp hT eC tL (prSt q d day copies)))) := by
  refine e174 ?_
  simp only [r174_0, r174_1, r174_2, r174_5, r174_6, r174_10, r174_13, r174_14, r174_17, r174_20, r174_21, r174_24, r174_25, r174_29, r174_32, r174_33, hx_0 hO, hX, xO, oGF_is, WPo_some, List.getElem?_cons_succ, List.getElem?_cons_zero, kil_n, kil_i, kil_a, kil_u, kil_l, Option.toList_some, Option.toList_none, List.cons_append, List.nil_append, List.set_cons_succ, List.set_cons_zero, addm1, Nat.reduceAdd, List.length_cons, List.length_nil, Nat.reduceLT, q174_7 (c_printStatus (h.PL hO)) (hO.c46 h), pf_10150, sx_0 hO, su, hs, not_true_eq_false, not_false_eq_true, if_true, if_false, or_self, and_self, true_and, and_true, or_true, true_or, false_or, or_false, false_and, and_false]
theorem x_print_ok (hO : XO E ah A) (hX : S 0 = xO A tx sp hT eC tL st) (h : plS A S f n q t d) {day copies : Int32} (hs : prSt q d day copies = 0) : ∃ S', EV E (c + 2) 174 [.ref (A 0), .int day, .int copies] (oh E ah A S) (some (.int (cpz (f 2) q + copies))) (oh E ah A S') ∧ S' 0 = xO A tx sp hT eC tL 0 ∧ plS A S' (fu (fu f 2 q (cpz (f 2) q + copies)) 3 q (nI n)) n (q + 1) t day ∧ ∀ k, k ≠ 0 → (k < 46 ∨ 53 < k) → S' k = S k := by
  obtain ⟨s1, s2, s3⟩ := prSt_0 hs
  have h' : plS A (su S 0 (xO A tx sp hT eC tL 0)) f n q t d := h.x
  refine ⟨_, e174 ?_, ?_, p_addPrint h' s2, ?_⟩
  · unfold xO at h' hX ⊢
    simp only [r174_0, r174_1, r174_2, r174_5, r174_6, r174_10, r174_13, r174_14, r174_17, r174_20, r174_21, r174_24, r174_25, r174_29, r174_32, r174_33, hx_0 hO, hX, oGF_is, WPo_some, List.getElem?_cons_succ, List.getElem?_cons_zero, kil_n, kil_i, kil_a, kil_u, kil_l, Option.toList_some, Option.toList_none, List.cons_append, List.nil_append, List.set_cons_succ, List.set_cons_zero, addm1, Nat.reduceAdd, List.length_cons, List.length_nil, Nat.reduceLT, q174_7 (c_printStatus (h.PL hO)) (hO.c46 h), pf_10150, sx_0 hO, su, hs, not_true_eq_false, not_false_eq_true, if_true, if_false, or_self, and_self, true_and, and_true, or_true, true_or, false_or, or_false, false_and, and_false, q174_26 (c_addPrint hO h' s2) (hO.c46 h'), Nat.reduceEqDiff]
  · simp [su]
  · intro k h1 h2
    have e1 : ¬ k = 46 := by omega
    have e2 : ¬ k = 49 := by omega
    have e3 : ¬ k = 50 := by omega
    simp [su, h1, e1, e2, e3]
/-- STATUS and answer of says -/
noncomputable def sayS (g : Nat → Nat) (q : Nat) (copy row : Int32) : Int32 := if ¬ (0 ≤ row.toInt ∧ row.toInt ≤ 39) then 2 else if ¬ (1 ≤ copy.toInt ∧ copy.toInt ≤ g q) then 8 else 0
noncomputable def sayV (f : Nat → Nat → Int32) (g hc : Nat → Nat) (q : Nat) (copy row : Int32) : Int32 := if sayS g q copy row = 0 then said (f 0) (f 1) row (hc (pIdx g copy.toInt q)) else -1
theorem nI_m1 {i : Nat} (h : i < 1000) : ¬ nI i = -1 := by
  intro z
  have h1 := congrArg Int32.toInt z
  rw [nI_toInt (by omega)] at h1
  have h2 : (-1 : Int32).toInt = -1 := by decide
  omega
theorem x_says (hO : XO E ah A) (hX : S 0 = xO A tx sp hT eC tL st) (h : plS A S f n q t d) (hv : PIv f n q g hc) {copy row : Int32} : EV E (c + 2) 176 [.ref (A 0), .int copy, .int row] (oh E ah A S) (some (.int (sayV f g hc q copy row))) (oh E ah A (su S 0 (xO A tx sp hT eC tL (sayS g q copy row)))) := by
  have hq := h.2.2.2.2.2.2.2.2.2.1
  have h' : ∀ st, plS A (su S 0 (xO A tx sp hT eC tL st)) f n q t d := fun st => h.x
  refine e176 ?_
  unfold xO at h' hX ⊢
  have hpo := pof_all hv hq (x := copy)
  by_cases h1 : 1 ≤ copy.toInt ∧ copy.toInt ≤ g q
  · rw [if_pos h1] at hpo
    have hi := pIdx_lt hv h1.1 h1.2
    obtain ⟨-, -, -, e1, e2⟩ := hv.2 _ hi
    by_cases h2 : 0 ≤ row.toInt ∧ row.toInt ≤ 39
    · have h3 : ¬ row < 0 ∧ ¬ 40 ≤ row := by simp only [i32_lt, i32_le, i64_lt, i64_le, i2l_toInt, Int32.reduceToInt, Int64.reduceToInt]; omega
      have e3 : sayS g q copy row = 0 := by simp [sayS, h1, h2]
      simp only [r176_0, r176_1, r176_4, r176_8, r176_9, r176_10, r176_13, r176_17, r176_20, r176_21, r176_22, r176_25, r176_28, r176_29, r176_30, r176_31, r176_34, r176_36, r176_39, r176_40, r176_43, r176_44, r176_47, r176_50, r176_51, r176_54, r176_55, r176_59, r176_62, r176_63, hx_0 hO, hX, oGF_is, WPo_some, List.getElem?_cons_succ, List.getElem?_cons_zero, kil_n, kil_i, kil_a, kil_u, kil_l, Option.toList_some, Option.toList_none, List.cons_append, List.nil_append, List.set_cons_succ, List.set_cons_zero, addm1, Nat.reduceAdd, List.length_cons, List.length_nil, Nat.reduceLT, q176_5 (c_printingOf (h.PL hO)) (hO.c46 h), q176_14 c_hasRow (hO.c46 h), hpo, b2i_eq0, h3, nI_m1 (show pIdx g copy.toInt q < 1000 by omega), pf_10150, sx_0 hO, su, not_true_eq_false, not_false_eq_true, if_true, if_false, or_self, and_self, true_and, and_true, or_true, true_or, false_or, or_false, false_and, and_false, q176_56 (c_saidIn ((h' 0).PL hO) hi e1 e2) (hO.c46 (h' 0)), e3, sayV]
    · have h3 : ¬ (¬ row < 0 ∧ ¬ 40 ≤ row) := by simp only [i32_lt, i32_le, i64_lt, i64_le, i2l_toInt, Int32.reduceToInt, Int64.reduceToInt]; omega
      have e3 : sayS g q copy row = 2 := by simp [sayS, h2]
      simp only [r176_0, r176_1, r176_4, r176_8, r176_9, r176_10, r176_13, r176_17, r176_20, r176_21, r176_22, r176_25, r176_28, r176_29, r176_30, r176_31, r176_34, r176_36, r176_39, r176_40, r176_43, r176_44, r176_47, r176_50, r176_51, r176_54, r176_55, r176_59, r176_62, r176_63, hx_0 hO, hX, oGF_is, WPo_some, List.getElem?_cons_succ, List.getElem?_cons_zero, kil_n, kil_i, kil_a, kil_u, kil_l, Option.toList_some, Option.toList_none, List.cons_append, List.nil_append, List.set_cons_succ, List.set_cons_zero, addm1, Nat.reduceAdd, List.length_cons, List.length_nil, Nat.reduceLT, q176_5 (c_printingOf (h.PL hO)) (hO.c46 h), q176_14 c_hasRow (hO.c46 h), hpo, b2i_eq0, h3, pf_10150, sx_0 hO, su, not_true_eq_false, not_false_eq_true, if_true, if_false, or_self, and_self, true_and, and_true, or_true, true_or, false_or, or_false, false_and, and_false, e3, sayV]
      simp
  · rw [if_neg h1] at hpo
    by_cases h2 : 0 ≤ row.toInt ∧ row.toInt ≤ 39
    · have h3 : ¬ row < 0 ∧ ¬ 40 ≤ row := by simp only [i32_lt, i32_le, i64_lt, i64_le, i2l_toInt, Int32.reduceToInt, Int64.reduceToInt]; omega
      have e3 : sayS g q copy row = 8 := by simp [sayS, h1, h2]
      simp only [r176_0, r176_1, r176_4, r176_8, r176_9, r176_10, r176_13, r176_17, r176_20, r176_21, r176_22, r176_25, r176_28, r176_29, r176_30, r176_31, r176_34, r176_36, r176_39, r176_40, r176_43, r176_44, r176_47, r176_50, r176_51, r176_54, r176_55, r176_59, r176_62, r176_63, hx_0 hO, hX, oGF_is, WPo_some, List.getElem?_cons_succ, List.getElem?_cons_zero, kil_n, kil_i, kil_a, kil_u, kil_l, Option.toList_some, Option.toList_none, List.cons_append, List.nil_append, List.set_cons_succ, List.set_cons_zero, addm1, Nat.reduceAdd, List.length_cons, List.length_nil, Nat.reduceLT, q176_5 (c_printingOf (h.PL hO)) (hO.c46 h), q176_14 c_hasRow (hO.c46 h), hpo, b2i_eq0, h3, pf_10150, sx_0 hO, su, not_true_eq_false, not_false_eq_true, if_true, if_false, or_self, and_self, true_and, and_true, or_true, true_or, false_or, or_false, false_and, and_false, e3, sayV]
      simp
    · have h3 : ¬ (¬ row < 0 ∧ ¬ 40 ≤ row) := by simp only [i32_lt, i32_le, i64_lt, i64_le, i2l_toInt, Int32.reduceToInt, Int64.reduceToInt]; omega
      have e3 : sayS g q copy row = 2 := by simp [sayS, h2]
      simp only [r176_0, r176_1, r176_4, r176_8, r176_9, r176_10, r176_13, r176_17, r176_20, r176_21, r176_22, r176_25, r176_28, r176_29, r176_30, r176_31, r176_34, r176_36, r176_39, r176_40, r176_43, r176_44, r176_47, r176_50, r176_51, r176_54, r176_55, r176_59, r176_62, r176_63, hx_0 hO, hX, oGF_is, WPo_some, List.getElem?_cons_succ, List.getElem?_cons_zero, kil_n, kil_i, kil_a, kil_u, kil_l, Option.toList_some, Option.toList_none, List.cons_append, List.nil_append, List.set_cons_succ, List.set_cons_zero, addm1, Nat.reduceAdd, List.length_cons, List.length_nil, Nat.reduceLT, q176_5 (c_printingOf (h.PL hO)) (hO.c46 h), q176_14 c_hasRow (hO.c46 h), hpo, b2i_eq0, h3, pf_10150, sx_0 hO, su, not_true_eq_false, not_false_eq_true, if_true, if_false, or_self, and_self, true_and, and_true, or_true, true_or, false_or, or_false, false_and, and_false, e3, sayV]
      simp
end PLX3

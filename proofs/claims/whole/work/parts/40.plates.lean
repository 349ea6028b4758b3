/-! Plates of the class -/
theorem c_hasRow {E : aEnv} {c p : Nat} {ah : aHp} {x : Int32} : EV E c 117 [.ref p, .int x] ah (some (.int (b2i (¬ x < 0 ∧ ¬ 40 ≤ x)))) ah := by
  refine e117 ?_
  simp only [r117_0, r117_1, r117_4, r117_5, r117_7, r117_10, r117_11, r117_14, r117_15 (x := 0) (Or.inl rfl), r117_15 (x := 1) (Or.inr rfl), r117_15 (b2i_or _)]
  by_cases h1 : x < 0 <;> by_cases h2 : (40 : Int32) ≤ x <;> simp [h1, h2, b2i]
theorem c_isDay {E : aEnv} {c p : Nat} {ah : aHp} {x : Int32} : EV E c 118 [.ref p, .int x] ah (some (.int (b2i (¬ x < 0 ∧ ¬ 9999 < x)))) ah := by
  refine e118 ?_
  simp only [r118_0, r118_1, r118_4, r118_5, r118_8, r118_11, r118_12, r118_15, r118_16 (x := 0) (Or.inl rfl), r118_16 (x := 1) (Or.inr rfl), r118_16 (b2i_or _)]
  by_cases h1 : x < 0 <;> by_cases h2 : (9999 : Int32) < x <;> simp [h1, h2, b2i]
/-- the plates: their cells; n casts, q printings, t tells, the day -/
noncomputable def plO (ad : Nat → Nat) (n q t : Nat) (d : Int32) : aE := .inr (8, [.ref (ad 0), .ref (ad 1), .ref (ad 2), .ref (ad 3), .ref (ad 4), .ref (ad 5), .ref (ad 6), .int (nI n), .int (nI q), .int (nI t), .int d])
noncomputable def PL (E : aEnv) (ah : aHp) (p : Nat) (ad : Nat → Nat) (f : Nat → Nat → Int32) (n q t : Nat) (d : Int32) : Prop :=
  hg E ah p = some (plO ad n q t d) ∧ hg E ah (ad 0) = some (.inl (0, 100, .inl (f 0))) ∧ hg E ah (ad 1) = some (.inl (0, 100, .inl (f 1))) ∧ hg E ah (ad 2) = some (.inl (0, 20, .inl (f 2))) ∧ hg E ah (ad 3) = some (.inl (0, 20, .inl (f 3))) ∧
  hg E ah (ad 4) = some (.inl (0, 60, .inl (f 4))) ∧ hg E ah (ad 5) = some (.inl (0, 60, .inl (f 5))) ∧ hg E ah (ad 6) = some (.inl (0, 60, .inl (f 6))) ∧ n ≤ 100 ∧ q ≤ 20 ∧ t ≤ 60
section PLATES
variable {E : aEnv} {c p : Nat} {ah : aHp} {ad : Nat → Nat} {f : Nat → Nat → Int32} {n q t : Nat} {d : Int32}
theorem PL.o (h : PL E ah p ad f n q t d) : hg E ah p = some (plO ad n q t d) := h.1
theorem PL.ci (h : PL E ah p ad f n q t d) : oCI (hg E ah p) = 8 := by rw [h.1]; rfl
theorem c_castsFull (h : PL E ah p ad f n q t d) : EV E c 119 [.ref p] ah (some (.int (b2i (100 ≤ n)))) ah := by
  refine e119 ?_
  have hn := h.2.2.2.2.2.2.2.2.1
  simp only [r119_0, r119_1, r119_4, r119_6, r119_9, r119_10, r119_13, r119_14 (x := 0) (Or.inl rfl), r119_14 (x := 1) (Or.inr rfl), r119_14 (b2i_or _), h.o, plO, oGF_is, WPo_some, List.getElem?_cons_succ, List.getElem?_cons_zero, kil_n, kil_i, kil_a, kil_u, kil_l, Option.toList_some, Option.toList_none, List.cons_append, List.nil_append, List.set_cons_succ, List.set_cons_zero, addm1, Nat.reduceAdd, List.length_cons, List.length_nil, Nat.reduceLT]
  have h1 : (nI n < 100) ↔ n < 100 := nI_ltI (b := 100) (by omega) (by omega)
  by_cases h2 : n < 100
  · simp [h1, h2, b2i]
  · simp [h1, h2, b2i]
theorem c_tellsFull (h : PL E ah p ad f n q t d) : EV E c 120 [.ref p] ah (some (.int (b2i (60 ≤ t)))) ah := by
  refine e120 ?_
  have hn := h.2.2.2.2.2.2.2.2.2.2
  simp only [r120_0, r120_1, r120_4, r120_6, r120_9, r120_10, r120_13, r120_14 (x := 0) (Or.inl rfl), r120_14 (x := 1) (Or.inr rfl), r120_14 (b2i_or _), h.o, plO, oGF_is, WPo_some, List.getElem?_cons_succ, List.getElem?_cons_zero, kil_n, kil_i, kil_a, kil_u, kil_l, Option.toList_some, Option.toList_none, List.cons_append, List.nil_append, List.set_cons_succ, List.set_cons_zero, addm1, Nat.reduceAdd, List.length_cons, List.length_nil, Nat.reduceLT]
  have h1 : (nI t < 60) ↔ t < 60 := nI_ltI (b := 60) (by omega) (by omega)
  by_cases h2 : t < 60
  · simp [h1, h2, b2i]
  · simp [h1, h2, b2i]
/-- the STATUS of cast and tell -/
noncomputable def rowSt (d day row num : Int32) (full : Prop) [Decidable full] : Int32 :=
  if ¬ (0 ≤ row.toInt ∧ row.toInt ≤ 39) then 2 else if ¬ ((0 ≤ day.toInt ∧ day.toInt ≤ 9999) ∧ -1000000000 ≤ num.toInt ∧ num.toInt ≤ 1000000000) then 5 else if full then 7 else if day.toInt < d.toInt then 12 else 0
theorem rowSt_0 {d day row num : Int32} {full : Prop} [Decidable full] (h : rowSt d day row num full = 0) : (0 ≤ row.toInt ∧ row.toInt ≤ 39) ∧ ((0 ≤ day.toInt ∧ day.toInt ≤ 9999) ∧ -1000000000 ≤ num.toInt ∧ num.toInt ≤ 1000000000) ∧ ¬ full ∧ d ≤ day := by
  unfold rowSt at h
  repeat' split at h
  all_goals first | (exfalso; revert h; decide) | skip
  rename_i h1 h2 h3 h4
  exact ⟨Classical.not_not.mp h1, Classical.not_not.mp h2, h3, by rw [i32_le]; omega⟩
theorem c_rowStatus (h : PL E ah p ad f n q t d) {day row num : Int32} {full : Prop} [Decidable full] : EV E (c + 1) 121 [.ref p, .int day, .int row, .int num, .int (b2i full)] ah (some (.int (rowSt d day row num full))) ah := by
  refine e121 ?_
  simp only [r121_0, r121_1, r121_5, r121_8, r121_9, r121_10, r121_11, r121_15, r121_18, r121_19, r121_21, r121_24, r121_25, r121_27, r121_30, r121_31, r121_32, r121_34, r121_37, r121_39, r121_40, r121_41, r121_42, r121_45, r121_48, r121_50, r121_53, r121_54, q121_2 c_hasRow h.ci, q121_12 c_isDay h.ci, h.o, plO, oGF_is, WPo_some, List.getElem?_cons_succ, List.getElem?_cons_zero, kil_n, kil_i, kil_a, kil_u, kil_l, Option.toList_some, Option.toList_none, List.cons_append, List.nil_append, List.set_cons_succ, List.set_cons_zero, addm1, Nat.reduceAdd, List.length_cons, List.length_nil, Nat.reduceLT, b2i_eq0, i32_lt, i32_le, i64_lt, i64_le, i2l_toInt, Int32.reduceToInt, Int64.reduceToInt, rowSt]
  repeat' split
  all_goals first | exact ⟨rfl, rfl⟩ | (exfalso; omega) | (exfalso; simp_all; done) | (simp_all; done)
/-- the first printing from i on whose last copy is not before the copy -/
noncomputable def pof (g : Nat → Int32) (copy : Int32) : Nat → Nat → Int32
  | _, 0 => -1
  | i, m + 1 => if ¬ copy < 1 ∧ copy ≤ g i then nI i else pof g copy (i + 1) m
theorem l_printingOf (h : PL E ah p ad f n q t d) (copy : Int32) : ∀ m i, i + m = q → WP E c 127 2 [some (.ref p), some (.int copy), some (.int (nI i))] [] ah (fun r1 x1 => r1 = some (.int (pof (f 2) copy i m)) ∧ x1 = ah)
  | 0, i, hi => by
    have hq := h.2.2.2.2.2.2.2.2.2.1
    have hc : nI q ≤ nI i := nI_le (by omega) (by omega)
    rw [r127_2]
    simp only [r127_0, r127_1, r127_3, r127_4, r127_7, r127_10, r127_11, r127_12, r127_15, r127_16, r127_17, r127_20, r127_21, r127_22, r127_25, r127_26, r127_27, r127_30, r127_33, r127_34, h.o, plO, oGF_is, WPo_some, List.getElem?_cons_succ, List.getElem?_cons_zero, kil_n, kil_i, kil_a, kil_u, kil_l, Option.toList_some, Option.toList_none, List.cons_append, List.nil_append, List.set_cons_succ, List.set_cons_zero, addm1, Nat.reduceAdd, List.length_cons, List.length_nil, Nat.reduceLT, hc, if_true, pof]
    simp
  | m + 1, i, hi => by
    have hq := h.2.2.2.2.2.2.2.2.2.1
    have hc : ¬ nI q ≤ nI i := nI_ge (by omega) (by omega)
    have ih := l_printingOf h copy m (i + 1) (by omega)
    rw [r127_2]
    simp only [r127_0, r127_1, r127_3, r127_4, r127_7, r127_10, r127_11, r127_12, r127_15, r127_16, r127_17, r127_20, r127_21, r127_22, r127_25, r127_26, r127_27, r127_30, r127_33, r127_34, h.o, plO, oGF_is, WPo_some, List.getElem?_cons_succ, List.getElem?_cons_zero, kil_n, kil_i, kil_a, kil_u, kil_l, Option.toList_some, Option.toList_none, List.cons_append, List.nil_append, List.set_cons_succ, List.set_cons_zero, addm1, Nat.reduceAdd, List.length_cons, List.length_nil, Nat.reduceLT, hc, if_false, gI_at h.2.2.2.1 (vp_in_nI (show i < 20 by omega) (by omega)), nI_clamp (show i < 2 ^ 31 by omega), nI_1, pof]
    by_cases h1 : copy < 1
    · simp only [h1, if_true, not_true_eq_false, false_and, if_false]
      exact ih
    · by_cases h2 : f 2 i < copy
      · have h3 : ¬ copy ≤ f 2 i := by simpa using h2
        simp only [h1, h2, h3, if_true, not_false_eq_true, and_false, if_false]
        exact ih
      · have h3 : copy ≤ f 2 i := by simpa using h2
        simp [h1, h2, h3]
theorem c_printingOf (h : PL E ah p ad f n q t d) {copy : Int32} : EV E c 127 [.ref p, .int copy] ah (some (.int (pof (f 2) copy 0 q))) ah := by
  refine e127 ?_
  rw [r127_0, r127_1]
  exact l_printingOf h copy q 0 (by omega)
/-- what row says after m casts -/
noncomputable def said (cr cn : Nat → Int32) (row : Int32) : Nat → Int32
  | 0 => 0
  | m + 1 => if cr m = row then cn m else said cr cn row m
theorem l_saidIn (h : PL E ah p ad f n q t d) (pr row : Int32) : ∀ m, m ≤ n → WP E c 128 9 [some (.ref p), some (.int pr), some (.int row), some (.int (nI m - 1))] [] ah (fun r1 x1 => r1 = some (.int (said (f 0) (f 1) row m)) ∧ x1 = ah)
  | 0, hm => by
    have hc : nI 0 - 1 < 0 := by decide
    rw [r128_9, r128_10]
    simp only [r128_0, r128_1, r128_4, r128_5, r128_6, r128_7, r128_8, r128_13, r128_14, r128_17, r128_18, r128_19, r128_20, r128_23, r128_24, r128_27, r128_28, r128_29, r128_30, r128_33, r128_36, r128_37, oGF_is, WPo_some, List.getElem?_cons_succ, List.getElem?_cons_zero, kil_n, kil_i, kil_a, kil_u, kil_l, Option.toList_some, Option.toList_none, List.cons_append, List.nil_append, List.set_cons_succ, List.set_cons_zero, addm1, Nat.reduceAdd, List.length_cons, List.length_nil, Nat.reduceLT, hc, if_true, said]
    simp
  | m + 1, hm => by
    have hn := h.2.2.2.2.2.2.2.2.1
    have hc : ¬ nI m < 0 := nI_pos (by omega)
    have ih := l_saidIn h pr row m (by omega)
    rw [nI_pred, r128_9, r128_10]
    simp only [r128_0, r128_1, r128_4, r128_5, r128_6, r128_7, r128_8, r128_13, r128_14, r128_17, r128_18, r128_19, r128_20, r128_23, r128_24, r128_27, r128_28, r128_29, r128_30, r128_33, r128_36, r128_37, h.o, plO, oGF_is, WPo_some, List.getElem?_cons_succ, List.getElem?_cons_zero, kil_n, kil_i, kil_a, kil_u, kil_l, Option.toList_some, Option.toList_none, List.cons_append, List.nil_append, List.set_cons_succ, List.set_cons_zero, addm1, Nat.reduceAdd, List.length_cons, List.length_nil, Nat.reduceLT, hc, if_false, gI_at h.2.1 (vp_in_nI (show m < 100 by omega) (by omega)), gI_at h.2.2.1 (vp_in_nI (show m < 100 by omega) (by omega)), nI_clamp (show m < 2 ^ 31 by omega), said]
    by_cases h1 : f 0 m = row
    · simp [h1]
    · simp only [h1, not_false_eq_true, if_true, if_false]
      exact ih
theorem c_saidIn (h : PL E ah p ad f n q t d) {row : Int32} {i m : Nat} (hi : i < q) (hm : f 3 i = nI m) (hn : m ≤ n) : EV E c 128 [.ref p, .int (nI i), .int row] ah (some (.int (said (f 0) (f 1) row m))) ah := by
  have hq := h.2.2.2.2.2.2.2.2.2.1
  refine e128 ?_
  simp only [r128_0, r128_1, r128_4, r128_5, r128_6, r128_7, r128_8, h.o, plO, oGF_is, WPo_some, List.getElem?_cons_succ, List.getElem?_cons_zero, kil_n, kil_i, kil_a, kil_u, kil_l, Option.toList_some, Option.toList_none, List.cons_append, List.nil_append, List.set_cons_succ, List.set_cons_zero, addm1, Nat.reduceAdd, List.length_cons, List.length_nil, Nat.reduceLT, gI_at h.2.2.2.2.1 (vp_in_nI (show i < 20 by omega) (by omega)), nI_clamp (show i < 2 ^ 31 by omega), hm]
  exact l_saidIn h (nI i) row m hn
/-- the latest tell of a row that is known, of the first m; -1: none -/
noncomputable def ltell (td tr : Nat → Int32) (row known : Int32) : Nat → Int32
  | 0 => -1
  | m + 1 => if tr m = row ∧ td m ≤ known then nI m else ltell td tr row known m
theorem l_latestTell (h : PL E ah p ad f n q t d) (row known : Int32) : ∀ m, m ≤ t → WP E c 130 7 [some (.ref p), some (.int row), some (.int known), some (.int (nI m - 1))] [] ah (fun r1 x1 => r1 = some (.int (ltell (f 4) (f 5) row known m)) ∧ x1 = ah)
  | 0, hm => by
    have hc : nI 0 - 1 < 0 := by decide
    rw [r130_7, r130_8]
    simp only [r130_0, r130_1, r130_4, r130_5, r130_6, r130_11, r130_12, r130_15, r130_16, r130_17, r130_18, r130_21, r130_22, r130_25, r130_26, r130_27, r130_28, r130_31, r130_32, r130_33, r130_36, r130_39, r130_40, oGF_is, WPo_some, List.getElem?_cons_succ, List.getElem?_cons_zero, kil_n, kil_i, kil_a, kil_u, kil_l, Option.toList_some, Option.toList_none, List.cons_append, List.nil_append, List.set_cons_succ, List.set_cons_zero, addm1, Nat.reduceAdd, List.length_cons, List.length_nil, Nat.reduceLT, hc, if_true, ltell]
    simp
  | m + 1, hm => by
    have hn := h.2.2.2.2.2.2.2.2.2.2
    have hc : ¬ nI m < 0 := nI_pos (by omega)
    have ih := l_latestTell h row known m (by omega)
    rw [nI_pred, r130_7, r130_8]
    simp only [r130_0, r130_1, r130_4, r130_5, r130_6, r130_11, r130_12, r130_15, r130_16, r130_17, r130_18, r130_21, r130_22, r130_25, r130_26, r130_27, r130_28, r130_31, r130_32, r130_33, r130_36, r130_39, r130_40, h.o, plO, oGF_is, WPo_some, List.getElem?_cons_succ, List.getElem?_cons_zero, kil_n, kil_i, kil_a, kil_u, kil_l, Option.toList_some, Option.toList_none, List.cons_append, List.nil_append, List.set_cons_succ, List.set_cons_zero, addm1, Nat.reduceAdd, List.length_cons, List.length_nil, Nat.reduceLT, hc, if_false, gI_at h.2.2.2.2.2.1 (vp_in_nI (show m < 60 by omega) (by omega)), gI_at h.2.2.2.2.2.2.1 (vp_in_nI (show m < 60 by omega) (by omega)), nI_clamp (show m < 2 ^ 31 by omega), ltell]
    by_cases h1 : f 5 m = row
    · by_cases h2 : f 4 m ≤ known
      · have h3 : ¬ known < f 4 m := by simpa using h2
        simp [h1, h2, h3]
      · have h3 : known < f 4 m := by simpa using h2
        simp only [h1, h2, h3, not_true_eq_false, if_true, if_false, and_false]
        exact ih
    · simp only [h1, not_false_eq_true, if_true, if_false, false_and]
      exact ih
theorem c_latestTell (h : PL E ah p ad f n q t d) {row known : Int32} : EV E c 130 [.ref p, .int row, .int known] ah (some (.int (ltell (f 4) (f 5) row known t))) ah := by
  refine e130 ?_
  simp only [r130_0, r130_1, r130_4, r130_5, r130_6, h.o, plO, oGF_is, WPo_some, List.getElem?_cons_succ, List.getElem?_cons_zero, kil_n, kil_i, kil_a, kil_u, kil_l, Option.toList_some, Option.toList_none, List.cons_append, List.nil_append, List.set_cons_succ, List.set_cons_zero, addm1, Nat.reduceAdd, List.length_cons, List.length_nil, Nat.reduceLT]
  exact l_latestTell h row known t (Nat.le_refl _)
theorem c_copiesBefore (h : PL E ah p ad f n q t d) {i : Nat} (hi : i ≤ 20) : EV E c 126 [.ref p, .int (nI i)] ah (some (.int (if i = 0 then 0 else f 2 (i - 1)))) ah := by
  refine e126 ?_
  cases i with
  | zero =>
    have hc : nI 0 ≤ 0 := by decide
    simp only [r126_0, r126_1, r126_4, r126_5, r126_8, r126_9, r126_10, r126_11, r126_12, r126_15, r126_16, h.o, plO, oGF_is, WPo_some, List.getElem?_cons_succ, List.getElem?_cons_zero, kil_n, kil_i, kil_a, kil_u, kil_l, Option.toList_some, Option.toList_none, List.cons_append, List.nil_append, List.set_cons_succ, List.set_cons_zero, addm1, Nat.reduceAdd, List.length_cons, List.length_nil, Nat.reduceLT, hc, if_true]
    simp
  | succ i =>
    have hc : ¬ nI (i + 1) ≤ 0 := nI_nle (by omega) (by omega)
    simp only [r126_0, r126_1, r126_4, r126_5, r126_8, r126_9, r126_10, r126_11, r126_12, r126_15, r126_16, h.o, plO, oGF_is, WPo_some, List.getElem?_cons_succ, List.getElem?_cons_zero, kil_n, kil_i, kil_a, kil_u, kil_l, Option.toList_some, Option.toList_none, List.cons_append, List.nil_append, List.set_cons_succ, List.set_cons_zero, addm1, Nat.reduceAdd, List.length_cons, List.length_nil, Nat.reduceLT, hc, if_false, nI_pred, gI_at h.2.2.2.1 (vp_in_nI (show i < 20 by omega) (by omega)), nI_clamp (show i < 2 ^ 31 by omega)]
    simp
/-- the STATUS of print -/
noncomputable def prSt (q : Nat) (d day copies : Int32) : Int32 := if ¬ ((0 ≤ day.toInt ∧ day.toInt ≤ 9999) ∧ 1 ≤ copies.toInt ∧ copies.toInt ≤ 1000) then 5 else if 20 ≤ q then 7 else if day.toInt < d.toInt then 12 else 0
theorem c_printStatus (h : PL E ah p ad f n q t d) {day copies : Int32} : EV E (c + 1) 122 [.ref p, .int day, .int copies] ah (some (.int (prSt q d day copies))) ah := by
  have hq := h.2.2.2.2.2.2.2.2.2.1
  refine e122 ?_
  have h1 : (nI q < 20) ↔ q < 20 := nI_ltI (b := 20) (by omega) (by omega)
  simp only [r122_0, r122_1, r122_5, r122_8, r122_9, r122_10, r122_13, r122_14, r122_17, r122_20, r122_21, r122_22, r122_23, r122_26, r122_28, r122_31, r122_33, r122_34, r122_35, r122_36, r122_39, r122_42, r122_44, r122_47, r122_48, q122_2 c_isDay h.ci, h.o, plO, oGF_is, WPo_some, List.getElem?_cons_succ, List.getElem?_cons_zero, kil_n, kil_i, kil_a, kil_u, kil_l, Option.toList_some, Option.toList_none, List.cons_append, List.nil_append, List.set_cons_succ, List.set_cons_zero, addm1, Nat.reduceAdd, List.length_cons, List.length_nil, Nat.reduceLT, b2i_eq0, h1, i32_lt, i32_le, i64_lt, i64_le, i2l_toInt, Int32.reduceToInt, Int64.reduceToInt, prSt]
  repeat' split
  all_goals first | exact ⟨rfl, rfl⟩ | (exfalso; omega) | (exfalso; simp_all; done) | (simp_all; done)
/-- the rows from row on that a printing of m casts has wrong -/
noncomputable def wrg (f : Nat → Nat → Int32) (t m : Nat) (known : Int32) : Nat → Nat → Int32 → Int32
  | _, 0, w => w
  | row, k + 1, w => wrg f t m known (row + 1) k (if ¬ ltell (f 4) (f 5) (nI row) known t = -1 ∧ ¬ f 6 (ltell (f 4) (f 5) (nI row) known t).toNatClampNeg = said (f 0) (f 1) (nI row) m then w + 1 else w)
theorem ltell_in (td tr : Nat → Int32) (row known : Int32) : ∀ t, ltell td tr row known t = -1 ∨ ∃ i, i < t ∧ ltell td tr row known t = nI i
  | 0 => Or.inl rfl
  | t + 1 => by
    unfold ltell
    split
    · exact Or.inr ⟨t, by omega, rfl⟩
    · rcases ltell_in td tr row known t with h | ⟨i, hi, h⟩
      · exact Or.inl h
      · exact Or.inr ⟨i, by omega, h⟩
theorem l_wrongRows (h : PL E ah p ad f n q t d) {i m : Nat} (hi : i < q) (hm : f 3 i = nI m) (hn : m ≤ n) (known : Int32) : ∀ k row w a5, row + k = 40 → WP E (c + 1) 129 5 [some (.ref p), some (.int (nI i)), some (.int known), some (.int w), some (.int (nI row)), a5] [] ah (fun r1 x1 => r1 = some (.int (wrg f t m known row k w)) ∧ x1 = ah)
  | 0, row, w, a5, hk => by
    have hc : (40 : Int32) ≤ nI row := nI_le (a := 40) (by omega) (by omega)
    rw [r129_5, r129_7, r129_9]
    simp only [r129_0, r129_1, r129_2, r129_3, r129_12, r129_13, r129_15, r129_19, r129_21, r129_23, r129_24, r129_27, r129_28, r129_31, r129_33, r129_34, r129_35, r129_36, r129_41, r129_44, r129_47, r129_50, r129_53, r129_54, oGF_is, WPo_some, List.getElem?_cons_succ, List.getElem?_cons_zero, kil_n, kil_i, kil_a, kil_u, kil_l, Option.toList_some, Option.toList_none, List.cons_append, List.nil_append, List.set_cons_succ, List.set_cons_zero, addm1, Nat.reduceAdd, List.length_cons, List.length_nil, Nat.reduceLT, hc, if_true, wrg]
    simp
  | k + 1, row, w, a5, hk => by
    have ht := h.2.2.2.2.2.2.2.2.2.2
    have hc : ¬ (40 : Int32) ≤ nI row := nI_ge (b := 40) (by omega) (by omega)
    rw [r129_5, r129_7, r129_9, if_neg hc]
    simp only [r129_12, r129_13, r129_15, q129_16 (c_latestTell h) h.ci, r129_19, r129_21, r129_23, r129_24, oGF_is, WPo_some, List.getElem?_cons_succ, List.getElem?_cons_zero, kil_n, kil_i, kil_a, kil_u, kil_l, Option.toList_some, Option.toList_none, List.cons_append, List.nil_append, List.set_cons_succ, List.set_cons_zero, addm1, Nat.reduceAdd, List.length_cons, List.length_nil, Nat.reduceLT]
    unfold wrg
    rcases ltell_in (f 4) (f 5) (nI row) known t with hl | ⟨j, hj, hl⟩
    · rw [hl]
      simp only [if_true, r129_47, r129_50, oGF_is, WPo_some, List.getElem?_cons_succ, List.getElem?_cons_zero, kil_n, kil_i, kil_a, kil_u, kil_l, Option.toList_some, Option.toList_none, List.cons_append, List.nil_append, List.set_cons_succ, List.set_cons_zero, addm1, Nat.reduceAdd, List.length_cons, List.length_nil, Nat.reduceLT, nI_1, not_true_eq_false, false_and, if_false]
      exact l_wrongRows h hi hm hn known k (row + 1) w _ (by omega)
    · rw [hl]
      have hne : ¬ nI j = -1 := by
        intro z
        have := congrArg Int32.toInt z
        rw [nI_toInt (by omega)] at this
        have h2 : (-1 : Int32).toInt = -1 := by decide
        omega
      simp only [hne, if_false, r129_27, r129_28, r129_31, r129_33, r129_34, r129_35, r129_36, q129_38 (c_saidIn h hi hm hn) h.ci, h.o, plO, oGF_is, WPo_some, List.getElem?_cons_succ, List.getElem?_cons_zero, kil_n, kil_i, kil_a, kil_u, kil_l, Option.toList_some, Option.toList_none, List.cons_append, List.nil_append, List.set_cons_succ, List.set_cons_zero, addm1, Nat.reduceAdd, List.length_cons, List.length_nil, Nat.reduceLT, gI_at h.2.2.2.2.2.2.2.1 (vp_in_nI (show j < 60 by omega) (by omega)), nI_clamp (show j < 2 ^ 31 by omega), r129_41, not_false_eq_true, true_and]
      by_cases he : f 6 j = said (f 0) (f 1) (nI row) m
      · simp only [he, if_true, r129_47, r129_50, oGF_is, WPo_some, List.getElem?_cons_succ, List.getElem?_cons_zero, kil_n, kil_i, kil_a, kil_u, kil_l, Option.toList_some, Option.toList_none, List.cons_append, List.nil_append, List.set_cons_succ, List.set_cons_zero, addm1, Nat.reduceAdd, List.length_cons, List.length_nil, Nat.reduceLT, nI_1, not_true_eq_false, if_false]
        exact l_wrongRows h hi hm hn known k (row + 1) w _ (by omega)
      · simp only [he, if_false, r129_44, r129_47, r129_50, oGF_is, WPo_some, List.getElem?_cons_succ, List.getElem?_cons_zero, kil_n, kil_i, kil_a, kil_u, kil_l, Option.toList_some, Option.toList_none, List.cons_append, List.nil_append, List.set_cons_succ, List.set_cons_zero, addm1, Nat.reduceAdd, List.length_cons, List.length_nil, Nat.reduceLT, nI_1, not_false_eq_true, if_true]
        exact l_wrongRows h hi hm hn known k (row + 1) (w + 1) _ (by omega)
theorem c_wrongRows (h : PL E ah p ad f n q t d) {i m : Nat} (hi : i < q) (hm : f 3 i = nI m) (hn : m ≤ n) {known : Int32} : EV E (c + 1) 129 [.ref p, .int (nI i), .int known] ah (some (.int (wrg f t m known 0 40 0))) ah := by
  refine e129 ?_
  simp only [r129_0, r129_1, r129_2, r129_3, oGF_is, WPo_some, List.getElem?_cons_succ, List.getElem?_cons_zero, kil_n, kil_i, kil_a, kil_u, kil_l, Option.toList_some, Option.toList_none, List.cons_append, List.nil_append, List.set_cons_succ, List.set_cons_zero, addm1, Nat.reduceAdd, List.length_cons, List.length_nil, Nat.reduceLT]
  exact l_wrongRows h hi hm hn known 40 0 0 _ (by omega)
end PLATES

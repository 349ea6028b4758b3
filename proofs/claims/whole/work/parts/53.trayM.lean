/-! Trays of the model -/
noncomputable def TM (ai : Nat → Nat → Int32) (al : Nat → Nat → Int64) (sr : Nat → Int32) (mn : Nat → Nat) (tn : Nat → Nat → Int64) : Prop :=
  ∀ i, i < 4 → mn i ≤ 60 ∧ (if sr i = -1 then ai 3 i = -1 ∧ mn i = 0 else ai 3 i = nI (mn i) ∧ ai 2 i = sr i ∧ (0 ≤ (sr i).toInt ∧ (sr i).toInt ≤ 3)) ∧ ∀ k, k < mn i → al 4 (60 * i + k) = tn i k
section TRM
variable {E : aEnv} {c m : Nat} {ah : aHp} {ma : Nat → Nat} {v : Nat → Value} {ai : Nat → Nat → Int32} {al : Nat → Nat → Int64} {sr : Nat → Int32} {mn : Nat → Nat} {tn : Nat → Nat → Int64}
theorem mul60 (i j : Nat) : (60 : Int32) * nI i + nI j = nI (60 * i + j) := by
  rw [show (60 : Int32) = nI 60 by decide, pk_mul, nI_add]
theorem m_cut {ah : aHp} {s : Int32} {x : Int64} : EV E c 200 [.int s, .long x] ah (some (.long (cutF s x))) ah := by
  refine e200 ?_
  simp only [r200_0, r200_1, r200_4, r200_5, r200_6, r200_7, r200_8, r200_11, r200_12, r200_13, r200_16, r200_17, r200_18, r200_19, r200_20, r200_23, r200_24, r200_25, r200_28, r200_29, r200_30, r200_31, r200_34, r200_35, cutF]
  by_cases h0 : s = 0
  · simp [h0]
  · by_cases h1 : s = 1
    · simp [h1]
    · by_cases h2 : s = 2
      · simp [h2]
      · simp [h0, h1, h2]
theorem m_trayed (h : MO E ah m ma) (hm : TM ai al sr mn tn) {x : Int32} : EV E c 202 [.ref m, .int x] (mh E ah m ma v ai al) (some (.int (if ¬ (0 ≤ x.toInt ∧ x.toInt ≤ 3) then 1 else if sr x.toInt.toNat = -1 then 3 else 0))) (mh E ah m ma v ai al) := by
  refine e202 ?_
  by_cases h1 : 0 ≤ x.toInt ∧ x.toInt ≤ 3
  · obtain ⟨i, hi, rfl⟩ := i32_nat (n := 4) h1.1 (by omega)
    have h2 := nI_toInt (show i < 2 ^ 31 by omega)
    have h3 : nI i < 4 := nI_lt (b := 4) (by omega) (by omega)
    obtain ⟨m1, m2, -⟩ := hm i hi
    simp only [r202_0, r202_1, r202_4, r202_5, r202_6, r202_9, r202_10, r202_13, r202_14, r202_17, r202_18, r202_19, r202_22, r202_23, r202_26, r202_27, mh_o h, gm_3, WPo_some, List.getElem?_cons_succ, List.getElem?_cons_zero, kil_n, kil_i, kil_a, kil_u, kil_l, Option.toList_some, Option.toList_none, List.cons_append, List.nil_append, List.set_cons_succ, List.set_cons_zero, addm1, Nat.reduceAdd, List.length_cons, List.length_nil, Nat.reduceLT, gI, hm_3 h, nI_pos (show i < 2 ^ 31 by omega), nI_clamp (show i < 2 ^ 31 by omega), show ¬ 4 ≤ i by omega, h3, h2, Int.toNat_natCast, show (0 : Int) ≤ (i : Int) by omega, show (i : Int) ≤ 3 by omega, not_true_eq_false, not_false_eq_true, if_true, if_false, or_self, and_self, true_and, and_true, or_true, true_or, false_or, or_false, false_and, and_false]
    by_cases e : sr i = -1
    · rw [if_pos e] at m2
      have e2 : ¬ (0 : Int32) ≤ -1 := by decide
      simp only [m2.1, e, e2, not_true_eq_false, not_false_eq_true, if_true, if_false, or_self, and_self, true_and, and_true, or_true, true_or, false_or, or_false, false_and, and_false]
    · rw [if_neg e] at m2
      have e2 : (0 : Int32) ≤ nI (mn i) := nI_pos' (by omega)
      simp only [m2.1, e, e2, not_true_eq_false, not_false_eq_true, if_true, if_false, or_self, and_self, true_and, and_true, or_true, true_or, false_or, or_false, false_and, and_false]
  · by_cases h2 : x < 0
    · simp only [r202_0, r202_1, h2, r202_9, r202_10, r202_13, r202_14, r202_17, r202_18, r202_19, r202_22, r202_23, r202_26, r202_27, h1, not_true_eq_false, not_false_eq_true, if_true, if_false, or_self, and_self, true_and, and_true, or_true, true_or, false_or, or_false, false_and, and_false]
    · have h3 : ¬ x < 4 := by
        simp only [i32_lt, i32_le, i64_lt, i64_le, i2l_toInt, Int32.reduceToInt, Int64.reduceToInt] at h2 ⊢
        omega
      simp only [r202_0, r202_1, r202_4, r202_5, r202_6, r202_9, r202_10, h2, h3, h1, r202_27, not_true_eq_false, not_false_eq_true, if_true, if_false, or_self, and_self, true_and, and_true, or_true, true_or, false_or, or_false, false_and, and_false]
theorem m_placed (h : MO E ah m ma) (hm : TM ai al sr mn tn) {x y : Int32} : EV E (c + 1) 203 [.ref m, .int x, .int y] (mh E ah m ma v ai al) (some (.int (plSt sr mn x y))) (mh E ah m ma v ai al) := by
  refine e203 ?_
  by_cases h1 : 0 ≤ x.toInt ∧ x.toInt ≤ 3
  · obtain ⟨i, hi, rfl⟩ := i32_nat (n := 4) h1.1 (by omega)
    have h2 := nI_toInt (show i < 2 ^ 31 by omega)
    obtain ⟨m1, m2, -⟩ := hm i hi
    simp only [r203_0, r203_1, q203_2 (m_trayed h hm) h.ci, WPo_some, List.getElem?_cons_succ, List.getElem?_cons_zero, kil_n, kil_i, kil_a, kil_u, kil_l, Option.toList_some, Option.toList_none, List.cons_append, List.nil_append, List.set_cons_succ, List.set_cons_zero, addm1, Nat.reduceAdd, List.length_cons, List.length_nil, Nat.reduceLT, h2, Int.toNat_natCast, show (0 : Int) ≤ (i : Int) by omega, show (i : Int) ≤ 3 by omega, not_true_eq_false, not_false_eq_true, if_true, if_false, or_self, and_self, true_and, and_true, or_true, true_or, false_or, or_false, false_and, and_false, plSt]
    by_cases e : sr i = -1
    · have e2 : ¬ (3 : Int32) ≤ 0 := by decide
      simp only [e, e2, r203_5, r203_6, r203_7, r203_10, r203_11, r203_33, WPo_some, List.getElem?_cons_succ, List.getElem?_cons_zero, kil_n, kil_i, kil_a, kil_u, kil_l, Option.toList_some, Option.toList_none, List.cons_append, List.nil_append, List.set_cons_succ, List.set_cons_zero, addm1, Nat.reduceAdd, List.length_cons, List.length_nil, Nat.reduceLT, not_true_eq_false, not_false_eq_true, if_true, if_false, or_self, and_self, true_and, and_true, or_true, true_or, false_or, or_false, false_and, and_false]
    · rw [if_neg e] at m2
      have e3 := nI_toInt (show mn i < 2 ^ 31 by omega)
      simp only [e, r203_5, r203_6, r203_7, r203_10, r203_11, r203_14, r203_15, r203_18, r203_19, r203_20, r203_23, r203_24, r203_25, r203_28, r203_29, r203_32, r203_33, mh_o h, gm_3, WPo_some, List.getElem?_cons_succ, List.getElem?_cons_zero, kil_n, kil_i, kil_a, kil_u, kil_l, Option.toList_some, Option.toList_none, List.cons_append, List.nil_append, List.set_cons_succ, List.set_cons_zero, addm1, Nat.reduceAdd, List.length_cons, List.length_nil, Nat.reduceLT, gI, hm_3 h, nI_pos (show i < 2 ^ 31 by omega), nI_clamp (show i < 2 ^ 31 by omega), show ¬ 4 ≤ i by omega, m2.1, show (0 : Int32) ≤ 0 by decide, not_true_eq_false, not_false_eq_true, if_true, if_false, or_self, and_self, true_and, and_true, or_true, true_or, false_or, or_false, false_and, and_false, i32_lt, i32_le, i64_lt, i64_le, i2l_toInt, Int32.reduceToInt, Int64.reduceToInt, e3]
      repeat' split
      all_goals first | exact ⟨rfl, rfl⟩ | (exfalso; omega) | (exfalso; simp_all; done) | (simp_all; done)
  · have e1 : plSt sr mn x y = 1 := by simp only [plSt, h1, not_true_eq_false, not_false_eq_true, if_true, if_false, or_self, and_self, true_and, and_true, or_true, true_or, false_or, or_false, false_and, and_false]
    have e2 : ¬ (1 : Int32) ≤ 0 := by decide
    simp only [r203_0, r203_1, q203_2 (m_trayed h hm) h.ci, WPo_some, List.getElem?_cons_succ, List.getElem?_cons_zero, kil_n, kil_i, kil_a, kil_u, kil_l, Option.toList_some, Option.toList_none, List.cons_append, List.nil_append, List.set_cons_succ, List.set_cons_zero, addm1, Nat.reduceAdd, List.length_cons, List.length_nil, Nat.reduceLT, h1, not_true_eq_false, not_false_eq_true, if_true, if_false, or_self, and_self, true_and, and_true, or_true, true_or, false_or, or_false, false_and, and_false, r203_5, r203_6, r203_7, r203_10, r203_11, r203_33, e1, e2]
theorem plSt_pos {x y : Int32} : (plSt sr mn x y ≤ 0) = (plSt sr mn x y = 0) := by
  unfold plSt
  repeat' split
  all_goals decide
theorem m_read (h : MO E ah m ma) (hm : TM ai al sr mn tn) {x y : Int32} : EV E (c + 2) 205 [.ref m, .int x, .int y] (mh E ah m ma v ai al) (some (.long (if plSt sr mn x y = 0 then tn x.toInt.toNat y.toInt.toNat else -1))) (mh E ah m ma (vu (vu v 1 (.int 0)) 0 (.int (plSt sr mn x y))) ai al) := by
  refine e205 ?_
  have e0 : ∀ z, vu (vu v 1 (.int 0)) 0 z 0 = z := fun z => by simp [vu]
  by_cases h1 : plSt sr mn x y = 0
  · obtain ⟨i, j, hi, rfl, hne, hj, rfl⟩ := plSt_0 h1
    obtain ⟨m1, m2, m3⟩ := hm i hi
    have h2 := nI_toInt (show i < 2 ^ 31 by omega)
    have h3 := nI_toInt (show j < 2 ^ 31 by omega)
    simp only [r205_0, r205_1, r205_2, r205_5, r205_6, r205_7, r205_8, r205_12, r205_15, r205_16, r205_19, r205_22, r205_25, r205_28, r205_29, r205_32, r205_34, r205_35, r205_36, r205_37, r205_38, r205_39, mh_o h, pm_0, pm_1, gm_0, gm_4, WPo_some, List.getElem?_cons_succ, List.getElem?_cons_zero, kil_n, kil_i, kil_a, kil_u, kil_l, Option.toList_some, Option.toList_none, List.cons_append, List.nil_append, List.set_cons_succ, List.set_cons_zero, addm1, Nat.reduceAdd, List.length_cons, List.length_nil, Nat.reduceLT, mh_put h, q205_9 (m_placed h hm) h.ci, e0, h1, show (0 : Int32) ≤ 0 by decide, mul60, gL, hm_4 h, nI_pos (show 60 * i + j < 2 ^ 31 by omega), nI_clamp (show 60 * i + j < 2 ^ 31 by omega), show ¬ 240 ≤ 60 * i + j by omega, not_true_eq_false, not_false_eq_true, if_true, if_false, or_self, and_self, true_and, and_true, or_true, true_or, false_or, or_false, false_and, and_false, h2, h3, Int.toNat_natCast, m3 j hj]
  · have h2 : ¬ plSt sr mn x y ≤ 0 := by rw [plSt_pos]; exact h1
    simp only [r205_0, r205_1, r205_2, r205_5, r205_6, r205_7, r205_8, r205_12, r205_15, r205_16, r205_19, r205_22, r205_25, r205_28, r205_29, r205_32, r205_34, r205_35, r205_36, r205_37, r205_38, r205_39, mh_o h, pm_0, pm_1, gm_0, gm_4, WPo_some, List.getElem?_cons_succ, List.getElem?_cons_zero, kil_n, kil_i, kil_a, kil_u, kil_l, Option.toList_some, Option.toList_none, List.cons_append, List.nil_append, List.set_cons_succ, List.set_cons_zero, addm1, Nat.reduceAdd, List.length_cons, List.length_nil, Nat.reduceLT, mh_put h, q205_9 (m_placed h hm) h.ci, e0, h1, h2, not_true_eq_false, not_false_eq_true, if_true, if_false, or_self, and_self, true_and, and_true, or_true, true_or, false_or, or_false, false_and, and_false]
theorem m_write_no (h : MO E ah m ma) (hm : TM ai al sr mn tn) {x y : Int32} {w : Int64} (h1 : ¬ plSt sr mn x y = 0) : EV E (c + 2) 204 [.ref m, .int x, .int y, .long w] (mh E ah m ma v ai al) (some (.int 0)) (mh E ah m ma (vu (vu v 1 (.int 0)) 0 (.int (plSt sr mn x y))) ai al) := by
  refine e204 ?_
  have e0 : ∀ z, vu (vu v 1 (.int 0)) 0 z 0 = z := fun z => by simp [vu]
  have h2 : ¬ plSt sr mn x y ≤ 0 := by rw [plSt_pos]; exact h1
  simp only [r204_0, r204_1, r204_2, r204_5, r204_6, r204_7, r204_8, r204_12, r204_15, r204_16, r204_19, r204_22, r204_23 (x := 0) (Or.inl rfl), r204_23 (x := 1) (Or.inr rfl), r204_23 (b2i_or _), r204_24, r204_25, r204_28, r204_30, r204_31, r204_32, r204_33, r204_34, r204_35, r204_38, r204_39, r204_40, r204_44, r204_45, r204_46 (x := 0) (Or.inl rfl), r204_46 (x := 1) (Or.inr rfl), r204_46 (b2i_or _), mh_o h, pm_0, pm_1, gm_0, WPo_some, List.getElem?_cons_succ, List.getElem?_cons_zero, kil_n, kil_i, kil_a, kil_u, kil_l, Option.toList_some, Option.toList_none, List.cons_append, List.nil_append, List.set_cons_succ, List.set_cons_zero, addm1, Nat.reduceAdd, List.length_cons, List.length_nil, Nat.reduceLT, mh_put h, q204_9 (m_placed h hm) h.ci, e0, h1, h2, not_true_eq_false, not_false_eq_true, if_true, if_false, or_self, and_self, true_and, and_true, or_true, true_or, false_or, or_false, false_and, and_false]
theorem m_write_ok (h : MO E ah m ma) (hm : TM ai al sr mn tn) {i j : Nat} (hi : i < 4) (hne : ¬ sr i = -1) (hj : j < mn i) {w : Int64} : EV E (c + 2) 204 [.ref m, .int (nI i), .int (nI j), .long w] (mh E ah m ma v ai al) (some (.int 1)) (mh E ah m ma (vu (vu v 1 (.int 0)) 0 (.int 0)) ai (lu al 4 (vp_updL (al 4) (60 * i + j) (cutF (sr i) w)))) := by
  refine e204 ?_
  have e0 : ∀ z, vu (vu v 1 (.int 0)) 0 z 0 = z := fun z => by simp [vu]
  obtain ⟨m1, m2, m3⟩ := hm i hi
  rw [if_neg hne] at m2
  have h2 := nI_toInt (show i < 2 ^ 31 by omega)
  have h3 := nI_toInt (show j < 2 ^ 31 by omega)
  have e1 : plSt sr mn (nI i) (nI j) = 0 := by
    rw [plSt_i hi, h3, if_neg hne, if_neg (not_not_intro ⟨by omega, by omega⟩)]
  simp only [r204_0, r204_1, r204_2, r204_5, r204_6, r204_7, r204_8, r204_12, r204_15, r204_16, r204_19, r204_22, r204_23 (x := 0) (Or.inl rfl), r204_23 (x := 1) (Or.inr rfl), r204_23 (b2i_or _), r204_24, r204_25, r204_28, r204_30, r204_31, r204_32, r204_33, r204_34, r204_35, r204_38, r204_39, r204_40, r204_44, r204_45, r204_46 (x := 0) (Or.inl rfl), r204_46 (x := 1) (Or.inr rfl), r204_46 (b2i_or _), mh_o h, pm_0, pm_1, gm_0, gm_2, gm_4, WPo_some, List.getElem?_cons_succ, List.getElem?_cons_zero, kil_n, kil_i, kil_a, kil_u, kil_l, Option.toList_some, Option.toList_none, List.cons_append, List.nil_append, List.set_cons_succ, List.set_cons_zero, addm1, Nat.reduceAdd, List.length_cons, List.length_nil, Nat.reduceLT, mh_put h, q204_9 (m_placed h hm) h.ci, e0, e1, show (0 : Int32) ≤ 0 by decide, mul60, gI, hm_2 h, pL, hm_4 h, sm_4 h, nI_pos (show i < 2 ^ 31 by omega), nI_clamp (show i < 2 ^ 31 by omega), show ¬ 4 ≤ i by omega, m2.2.1, q204_41 m_cut, nI_pos (show 60 * i + j < 2 ^ 31 by omega), nI_clamp (show 60 * i + j < 2 ^ 31 by omega), show ¬ 240 ≤ 60 * i + j by omega, not_true_eq_false, not_false_eq_true, if_true, if_false, or_self, and_self, true_and, and_true, or_true, true_or, false_or, or_false, false_and, and_false]
theorem TM.write (hm : TM ai al sr mn tn) {i j : Nat} (hi : i < 4) (hj : j < mn i) {w : Int64} : TM ai (lu al 4 (vp_updL (al 4) (60 * i + j) w)) sr mn (fnu tn i (vp_updL (tn i) j w)) := by
  intro a ha
  obtain ⟨m1, m2, m3⟩ := hm a ha
  refine ⟨m1, m2, fun k hk => ?_⟩
  have hi1 := (hm i hi).1
  simp only [lu, if_true]
  by_cases e : a = i
  · subst e
    simp only [fnu, if_true]
    unfold vp_updL
    by_cases e2 : k = j
    · subst e2
      simp
    · rw [if_neg (by omega), if_neg e2, m3 k hk]
  · have h1 := m3 k hk
    simp only [fnu, e, if_false]
    unfold vp_updL
    rw [if_neg (by omega), h1]
theorem l_zero (h : MO E ah m ma) {i n : Nat} (hi : i < 4) (hn : n ≤ 60) {sort : Int32} : ∀ k j (al : Nat → Nat → Int64), j + k = n → WP E c 201 74 [some (.ref m), some (.int (nI i)), some (.int sort), some (.int (nI n)), some (.int (nI j))] [] (mh E ah m ma v ai al) (fun r1 x1 => r1 = some (.int 1) ∧ x1 = mh E ah m ma v ai (lu al 4 (fun q => if 60 * i + j ≤ q ∧ q < 60 * i + n then 0 else al 4 q)))
  | 0, j, al, hk => by
    have h1 : nI n ≤ nI j := nI_le (by omega) (by omega)
    rw [r201_74]
    simp only [r201_76, r201_77, r201_99, r201_100 (x := 0) (Or.inl rfl), r201_100 (x := 1) (Or.inr rfl), r201_100 (b2i_or _), WPo_some, List.getElem?_cons_succ, List.getElem?_cons_zero, kil_n, kil_i, kil_a, kil_u, kil_l, Option.toList_some, Option.toList_none, List.cons_append, List.nil_append, List.set_cons_succ, List.set_cons_zero, addm1, Nat.reduceAdd, List.length_cons, List.length_nil, Nat.reduceLT, h1, not_true_eq_false, not_false_eq_true, if_true, if_false, or_self, and_self, true_and, and_true, or_true, true_or, false_or, or_false, false_and, and_false]
    have e1 : lu al 4 (fun q => if 60 * i + j ≤ q ∧ q < 60 * i + n then 0 else al 4 q) = al := by
      funext a q
      unfold lu
      split
      · next e => subst e; dsimp only; rw [if_neg (by omega)]
      · rfl
    rw [e1]
  | k + 1, j, al, hk => by
    have h1 : ¬ nI n ≤ nI j := nI_ge (by omega) (by omega)
    have ih := l_zero h hi hn (sort := sort) k (j + 1) (lu al 4 (vp_updL (al 4) (60 * i + j) 0)) (by omega)
    rw [r201_74]
    simp only [r201_76, r201_77, r201_80, r201_81, r201_84, r201_86, r201_87, r201_88, r201_90, r201_91, r201_92, r201_93, r201_96, mh_o h, gm_4, WPo_some, List.getElem?_cons_succ, List.getElem?_cons_zero, kil_n, kil_i, kil_a, kil_u, kil_l, Option.toList_some, Option.toList_none, List.cons_append, List.nil_append, List.set_cons_succ, List.set_cons_zero, addm1, Nat.reduceAdd, List.length_cons, List.length_nil, Nat.reduceLT, h1, mul60, pL, hm_4 h, sm_4 h, nI_pos (show 60 * i + j < 2 ^ 31 by omega), nI_clamp (show 60 * i + j < 2 ^ 31 by omega), show ¬ 240 ≤ 60 * i + j by omega, nI_1, not_true_eq_false, not_false_eq_true, if_true, if_false, or_self, and_self, true_and, and_true, or_true, true_or, false_or, or_false, false_and, and_false]
    have e1 : lu (lu al 4 (vp_updL (al 4) (60 * i + j) 0)) 4 (fun q => if 60 * i + (j + 1) ≤ q ∧ q < 60 * i + n then 0 else lu al 4 (vp_updL (al 4) (60 * i + j) 0) 4 q) = lu al 4 (fun q => if 60 * i + j ≤ q ∧ q < 60 * i + n then 0 else al 4 q) := by
      funext a q
      simp only [lu, if_true]
      split
      · unfold vp_updL
        dsimp only
        by_cases e : q = 60 * i + j
        · rw [if_neg (by omega), if_pos e, if_pos (by omega)]
        · by_cases e2 : 60 * i + (j + 1) ≤ q ∧ q < 60 * i + n
          · rw [if_pos e2, if_pos (by omega)]
          · rw [if_neg e2, if_neg e, if_neg (by omega)]
      · rfl
    rw [e1] at ih
    exact ih
theorem m_tray_no (h : MO E ah m ma) {tray sort many : Int32} (hs : ¬ trSt tray sort many = 0) : EV E (c + 1) 201 [.ref m, .int tray, .int sort, .int many] (mh E ah m ma v ai al) (some (.int 0)) (mh E ah m ma (vu (vu v 1 (.int 0)) 0 (.int (trSt tray sort many))) ai al) := by
  refine e201 ?_
  simp only [r201_0, r201_1, r201_2, r201_5, r201_6, r201_7, r201_10, r201_11, r201_14, r201_15, r201_16, r201_19, r201_20, r201_23, r201_24, r201_25, r201_28, r201_29, r201_33 (x := 0) (Or.inl rfl), r201_33 (x := 1) (Or.inr rfl), r201_33 (b2i_or _), r201_34, r201_35, r201_37, r201_40, r201_41, r201_45 (x := 0) (Or.inl rfl), r201_45 (x := 1) (Or.inr rfl), r201_45 (b2i_or _), r201_46, r201_47, r201_50, r201_51, r201_33 (x := 0) (Or.inl rfl), r201_45 (x := 0) (Or.inl rfl), r201_56 (x := 0) (Or.inl rfl), mh_o h, pm_0, pm_1, WPo_some, List.getElem?_cons_succ, List.getElem?_cons_zero, kil_n, kil_i, kil_a, kil_u, kil_l, Option.toList_some, Option.toList_none, List.cons_append, List.nil_append, List.set_cons_succ, List.set_cons_zero, addm1, Nat.reduceAdd, List.length_cons, List.length_nil, Nat.reduceLT, mh_put h, q201_30 (m_no h) h.ci, q201_42 (m_no h) h.ci, q201_53 (m_no h) h.ci, vu_vu, i32_lt, i32_le, i64_lt, i64_le, i2l_toInt, Int32.reduceToInt, Int64.reduceToInt]
  unfold trSt tst at hs ⊢
  repeat' split
  all_goals first | exact ⟨rfl, rfl⟩ | (exfalso; omega) | (exfalso; simp_all; done) | (simp_all; done)
theorem m_tray_ok (h : MO E ah m ma) {sort : Int32} {i k : Nat} (hi : i < 4) (hk : k ≤ 60) (hs : 0 ≤ sort.toInt ∧ sort.toInt ≤ 3) : EV E (c + 1) 201 [.ref m, .int (nI i), .int sort, .int (nI k)] (mh E ah m ma v ai al) (some (.int 1)) (mh E ah m ma (vu (vu v 1 (.int 0)) 0 (.int 0)) (iu (iu ai 2 (upd (ai 2) i sort)) 3 (upd (ai 3) i (nI k))) (lu al 4 (fun q => if 60 * i ≤ q ∧ q < 60 * i + k then 0 else al 4 q))) := by
  refine e201 ?_
  have h1 : ¬ (4 : Int32) ≤ nI i := nI_ge (b := 4) (by omega) (by omega)
  have h2 : ¬ sort < 0 := by simp only [i32_lt, i32_le, i64_lt, i64_le, i2l_toInt, Int32.reduceToInt, Int64.reduceToInt]; omega
  have h3 : sort ≤ 3 := by simp only [i32_lt, i32_le, i64_lt, i64_le, i2l_toInt, Int32.reduceToInt, Int64.reduceToInt]; omega
  have h4 : nI k ≤ 60 := nI_le (b := 60) (by omega) (by omega)
  have h5 : (0 : Int32) ≤ nI k := nI_pos' (by omega)
  simp only [r201_0, r201_1, r201_2, r201_5, r201_6, r201_7, r201_10, r201_11, r201_14, r201_15, r201_16, r201_19, r201_20, r201_23, r201_24, r201_25, r201_28, r201_29, r201_33 (x := 0) (Or.inl rfl), r201_33 (x := 1) (Or.inr rfl), r201_33 (b2i_or _), r201_34, r201_35, r201_37, r201_40, r201_41, r201_45 (x := 0) (Or.inl rfl), r201_45 (x := 1) (Or.inr rfl), r201_45 (b2i_or _), r201_46, r201_47, r201_50, r201_51, r201_56 (x := 0) (Or.inl rfl), r201_56 (x := 1) (Or.inr rfl), r201_56 (b2i_or _), r201_57, r201_58, r201_61, r201_62, r201_63, r201_64, r201_65, r201_68, r201_69, r201_70, r201_71, r201_72, mh_o h, pm_0, pm_1, gm_2, gm_3, WPo_some, List.getElem?_cons_succ, List.getElem?_cons_zero, kil_n, kil_i, kil_a, kil_u, kil_l, Option.toList_some, Option.toList_none, List.cons_append, List.nil_append, List.set_cons_succ, List.set_cons_zero, addm1, Nat.reduceAdd, List.length_cons, List.length_nil, Nat.reduceLT, mh_put h, h1, h2, h3, h4, h5, nI_pos (show i < 2 ^ 31 by omega), nI_clamp (show i < 2 ^ 31 by omega), show ¬ 4 ≤ i by omega, not_true_eq_false, not_false_eq_true, if_true, if_false, or_self, and_self, true_and, and_true, or_true, true_or, false_or, or_false, false_and, and_false, pI, hm_2 h, hm_3 h, sm_2 h, sm_3 h, iu, Nat.reduceEqDiff]
  exact l_zero h hi hk k 0 al (by omega)
theorem TM.make (hm : TM ai al sr mn tn) {i k : Nat} (hi : i < 4) (hk : k ≤ 60) {sort : Int32} (hs : 0 ≤ sort.toInt ∧ sort.toInt ≤ 3) : TM (iu (iu ai 2 (upd (ai 2) i sort)) 3 (upd (ai 3) i (nI k))) (lu al 4 (fun q => if 60 * i ≤ q ∧ q < 60 * i + k then 0 else al 4 q)) (fnu sr i sort) (fnu mn i k) (fnu tn i (fillF (tn i) 0 60)) := by
  intro a ha
  obtain ⟨m1, m2, m3⟩ := hm a ha
  by_cases e : a = i
  · subst e
    have hne : ¬ sort = -1 := by
      intro z
      subst z
      revert hs
      decide
    refine ⟨by simp [fnu, hk], ?_, fun j hj => ?_⟩
    · simp only [fnu, if_true, hne, if_false, iu, upd, Nat.reduceEqDiff]
      exact ⟨trivial, trivial, hs⟩
    · simp only [fnu, if_true] at hj ⊢
      simp only [lu, if_true, fillF]
      rw [if_pos (by omega), if_pos (by omega)]
  · refine ⟨by simp [fnu, e, m1], ?_, fun j hj => ?_⟩
    · simp only [fnu, e, if_false, iu, upd, Nat.reduceEqDiff, if_true]
      exact m2
    · simp only [fnu, e, if_false] at hj ⊢
      simp only [lu, if_true]
      rw [if_neg (by omega)]
      exact m3 j hj
end TRM

/-! Plates of the model: says, wrong, bad -/
section PLM3
variable {E : aEnv} {c m : Nat} {ah : aHp} {ma : Nat → Nat} {v : Nat → Value} {ai : Nat → Nat → Int32} {al : Nat → Nat → Int64}
variable {f : Nat → Nat → Int32} {n q t : Nat} {d : Int32} {g hc : Nat → Nat}
theorem PM.x (hp : PM v ai f n q t d) {x y : Value} : PM (vu (vu v 1 x) 0 y) ai f n q t d := by
  obtain ⟨p1, p2, p3, p4, p5, p6⟩ := hp
  exact ⟨by simp [vu, p1], by simp [vu, p2], by simp [vu, p3], by simp [vu, p4], by simp [vu, p5], p6⟩
theorem vu_vu {v : Nat → Value} {k : Nat} {x y : Value} : vu (vu v k x) k y = vu v k y := by
  funext j
  unfold vu
  split <;> rfl
theorem m_says (h : MO E ah m ma) (hp : PM v ai f n q t d) (hv : PIv f n q g hc) (hq : q ≤ 20) (hn : n ≤ 100) {copy row : Int32} : EV E (c + 2) 280 [.ref m, .int copy, .int row] (mh E ah m ma v ai al) (some (.int (sayV f g hc q copy row))) (mh E ah m ma (vu (vu v 1 (.int 0)) 0 (.int (sayS g q copy row))) ai al) := by
  have hp' : PM (vu (vu v 1 (.int 0)) 0 (.int 0)) ai f n q t d := hp.x
  refine e280 ?_
  by_cases h2 : 0 ≤ row.toInt ∧ row.toInt ≤ 39
  · by_cases h1 : 1 ≤ copy.toInt ∧ copy.toInt ≤ g q
    · have hi := pIdx_lt hv h1.1 h1.2
      have e3 : sayS g q copy row = 0 := by simp [sayS, h1, h2]
      simp only [r280_0, r280_1, r280_2, r280_5, r280_6, r280_7, r280_10, r280_14, r280_17, r280_18, r280_22, r280_23, r280_24, r280_28, r280_31, r280_32, r280_33, r280_37, r280_41, r280_44, r280_45, r280_50, mh_o h, pm_0, pm_1, WPo_some, List.getElem?_cons_succ, List.getElem?_cons_zero, kil_n, kil_i, kil_a, kil_u, kil_l, Option.toList_some, Option.toList_none, List.cons_append, List.nil_append, List.set_cons_succ, List.set_cons_zero, addm1, Nat.reduceAdd, List.length_cons, List.length_nil, Nat.reduceLT, mh_put h, q280_11 m_isRow, q280_25 (m_isCopy h hp' hv hq) h.ci, b2i_eq0, h1, h2, not_true_eq_false, not_false_eq_true, if_true, if_false, or_self, and_self, true_and, and_true, or_true, true_or, false_or, or_false, false_and, and_false, q280_34 (m_printingOf h hp' hv hq h1.1 h1.2) h.ci, q280_38 (m_saysOf h hp' hv hq hn hi) h.ci, e3, sayV]
    · have e3 : sayS g q copy row = 8 := by simp [sayS, h1, h2]
      simp only [r280_0, r280_1, r280_2, r280_5, r280_6, r280_7, r280_10, r280_14, r280_17, r280_18, r280_22, r280_23, r280_24, r280_28, r280_31, r280_32, r280_33, r280_37, r280_41, r280_44, r280_45, r280_50, mh_o h, pm_0, pm_1, WPo_some, List.getElem?_cons_succ, List.getElem?_cons_zero, kil_n, kil_i, kil_a, kil_u, kil_l, Option.toList_some, Option.toList_none, List.cons_append, List.nil_append, List.set_cons_succ, List.set_cons_zero, addm1, Nat.reduceAdd, List.length_cons, List.length_nil, Nat.reduceLT, mh_put h, q280_11 m_isRow, q280_25 (m_isCopy h hp' hv hq) h.ci, b2i_eq0, h1, h2, not_true_eq_false, not_false_eq_true, if_true, if_false, or_self, and_self, true_and, and_true, or_true, true_or, false_or, or_false, false_and, and_false, q280_47 (m_refuse h) h.ci, vu_vu, e3, sayV]
      simp
  · have e3 : sayS g q copy row = 2 := by simp [sayS, h2]
    simp only [r280_0, r280_1, r280_2, r280_5, r280_6, r280_7, r280_10, r280_14, r280_17, r280_18, r280_22, r280_23, r280_24, r280_28, r280_31, r280_32, r280_33, r280_37, r280_41, r280_44, r280_45, r280_50, mh_o h, pm_0, pm_1, WPo_some, List.getElem?_cons_succ, List.getElem?_cons_zero, kil_n, kil_i, kil_a, kil_u, kil_l, Option.toList_some, Option.toList_none, List.cons_append, List.nil_append, List.set_cons_succ, List.set_cons_zero, addm1, Nat.reduceAdd, List.length_cons, List.length_nil, Nat.reduceLT, mh_put h, q280_11 m_isRow, b2i_eq0, h2, not_true_eq_false, not_false_eq_true, if_true, if_false, or_self, and_self, true_and, and_true, or_true, true_or, false_or, or_false, false_and, and_false, q280_19 (m_refuse h) h.ci, vu_vu, e3, sayV]
    simp
theorem m_wrong (h : MO E ah m ma) (hp : PM v ai f n q t d) (hv : PIv f n q g hc) (hq : q ≤ 20) (hn : n ≤ 100) (ht : t ≤ 60) {copy known : Int32} : EV E (c + 2) 282 [.ref m, .int copy, .int known] (mh E ah m ma v ai al) (some (.int (wrV f g hc t q copy known))) (mh E ah m ma (vu (vu v 1 (.int 0)) 0 (.int (wrS g q copy known))) ai al) := by
  have hp' : PM (vu (vu v 1 (.int 0)) 0 (.int 0)) ai f n q t d := hp.x
  refine e282 ?_
  by_cases h2 : 0 ≤ known.toInt ∧ known.toInt ≤ 9999
  · by_cases h1 : 1 ≤ copy.toInt ∧ copy.toInt ≤ g q
    · have hi := pIdx_lt hv h1.1 h1.2
      have e3 : wrS g q copy known = 0 := by simp [wrS, h1, h2]
      simp only [r282_0, r282_1, r282_2, r282_5, r282_6, r282_7, r282_10, r282_11, r282_12, r282_13, r282_19, r282_22, r282_23, r282_27, r282_28, r282_29, r282_33, r282_36, r282_37, r282_38, r282_42, r282_46, r282_49, r282_50, r282_55, mh_o h, pm_0, pm_1, WPo_some, List.getElem?_cons_succ, List.getElem?_cons_zero, kil_n, kil_i, kil_a, kil_u, kil_l, Option.toList_some, Option.toList_none, List.cons_append, List.nil_append, List.set_cons_succ, List.set_cons_zero, addm1, Nat.reduceAdd, List.length_cons, List.length_nil, Nat.reduceLT, mh_put h, q282_16 m_isIn, i64_lt, i64_le, i2l_toInt, Int64.reduceToInt, q282_30 (m_isCopy h hp' hv hq) h.ci, b2i_eq0, h1, h2, not_true_eq_false, not_false_eq_true, if_true, if_false, or_self, and_self, true_and, and_true, or_true, true_or, false_or, or_false, false_and, and_false, q282_39 (m_printingOf h hp' hv hq h1.1 h1.2) h.ci, q282_43 (m_wrongOf h hp' hv hq hn ht hi) h.ci, e3, wrV]
    · have e3 : wrS g q copy known = 8 := by simp [wrS, h1, h2]
      simp only [r282_0, r282_1, r282_2, r282_5, r282_6, r282_7, r282_10, r282_11, r282_12, r282_13, r282_19, r282_22, r282_23, r282_27, r282_28, r282_29, r282_33, r282_36, r282_37, r282_38, r282_42, r282_46, r282_49, r282_50, r282_55, mh_o h, pm_0, pm_1, WPo_some, List.getElem?_cons_succ, List.getElem?_cons_zero, kil_n, kil_i, kil_a, kil_u, kil_l, Option.toList_some, Option.toList_none, List.cons_append, List.nil_append, List.set_cons_succ, List.set_cons_zero, addm1, Nat.reduceAdd, List.length_cons, List.length_nil, Nat.reduceLT, mh_put h, q282_16 m_isIn, i64_lt, i64_le, i2l_toInt, Int64.reduceToInt, q282_30 (m_isCopy h hp' hv hq) h.ci, b2i_eq0, h1, h2, not_true_eq_false, not_false_eq_true, if_true, if_false, or_self, and_self, true_and, and_true, or_true, true_or, false_or, or_false, false_and, and_false, q282_52 (m_refuse h) h.ci, vu_vu, e3, wrV]
      simp
  · have e3 : wrS g q copy known = 5 := by simp [wrS, h2]
    simp only [r282_0, r282_1, r282_2, r282_5, r282_6, r282_7, r282_10, r282_11, r282_12, r282_13, r282_19, r282_22, r282_23, r282_27, r282_28, r282_29, r282_33, r282_36, r282_37, r282_38, r282_42, r282_46, r282_49, r282_50, r282_55, mh_o h, pm_0, pm_1, WPo_some, List.getElem?_cons_succ, List.getElem?_cons_zero, kil_n, kil_i, kil_a, kil_u, kil_l, Option.toList_some, Option.toList_none, List.cons_append, List.nil_append, List.set_cons_succ, List.set_cons_zero, addm1, Nat.reduceAdd, List.length_cons, List.length_nil, Nat.reduceLT, mh_put h, q282_16 m_isIn, i64_lt, i64_le, i2l_toInt, Int64.reduceToInt, b2i_eq0, h2, not_true_eq_false, not_false_eq_true, if_true, if_false, or_self, and_self, true_and, and_true, or_true, true_or, false_or, or_false, false_and, and_false, q282_24 (m_refuse h) h.ci, vu_vu, e3, wrV]
    simp
theorem i32_s1 (a b : Int32) : a + 1 - (b + 1) = a - b := by
  rw [Int32.sub_eq_add_neg, Int32.neg_add, Int32.sub_eq_add_neg (-b), Int32.sub_eq_add_neg a]
  have h1 : a + 1 + (-b + -1) = (a + -b) + (1 + -1) := by ac_rfl
  rw [h1, show (1 : Int32) + -1 = 0 by decide, Int32.add_zero]
theorem nI_sub1 (a b : Nat) : nI (a + 1) - nI (b + 1) = nI a - nI b := by
  rw [← nI_1, ← nI_1, i32_s1]
theorem l_badM (h : MO E ah m ma) (hp : PM v ai f n q t d) (hv : PIv f n q g hc) (hq : q ≤ 20) (hn : n ≤ 100) (ht : t ≤ 60) (known : Int32) : ∀ k i w, i + k = q → WP E (c + 2) 283 32 [some (.ref m), some (.int known), some (.int w), some (.int (nI i))] [] (mh E ah m ma v ai al) (fun r1 x1 => r1 = some (.int (bdc f g hc t known i k w)) ∧ x1 = mh E ah m ma v ai al)
  | 0, i, w, hk => by
    have h1 : nI q ≤ nI i := nI_le (by omega) (by omega)
    rw [r283_32]
    simp only [r283_33, r283_34, r283_37, r283_92, r283_93, mh_o h, gm_79, WPo_some, List.getElem?_cons_succ, List.getElem?_cons_zero, kil_n, kil_i, kil_a, kil_u, kil_l, Option.toList_some, Option.toList_none, List.cons_append, List.nil_append, List.set_cons_succ, List.set_cons_zero, addm1, Nat.reduceAdd, List.length_cons, List.length_nil, Nat.reduceLT, hp.2.2.1, h1, not_true_eq_false, not_false_eq_true, if_true, if_false, or_self, and_self, true_and, and_true, or_true, true_or, false_or, or_false, false_and, and_false, bdc]
  | k + 1, i, w, hk => by
    have ih := fun w => l_badM h hp hv hq hn ht known k (i + 1) w (by omega)
    have h1 : ¬ nI q ≤ nI i := nI_ge (by omega) (by omega)
    have e1 : pfr (f 2) q i = nI (g i) + 1 := by simp [pfr, show i < q by omega, hv.cp (show i ≤ q by omega)]
    have hgi := hv.le (show i + 1 ≤ q by omega)
    rw [r283_32]
    simp only [r283_33, r283_34, r283_37, mh_o h, gm_79, WPo_some, List.getElem?_cons_succ, List.getElem?_cons_zero, kil_n, kil_i, kil_a, kil_u, kil_l, Option.toList_some, Option.toList_none, List.cons_append, List.nil_append, List.set_cons_succ, List.set_cons_zero, addm1, Nat.reduceAdd, List.length_cons, List.length_nil, Nat.reduceLT, hp.2.2.1, h1, not_true_eq_false, not_false_eq_true, if_true, if_false, or_self, and_self, true_and, and_true, or_true, true_or, false_or, or_false, false_and, and_false, r283_40, r283_41, r283_42, q283_43 (m_wrongOf h hp hv hq hn ht (show i < q by omega)) h.ci, r283_46, bdc]
    by_cases h2 : 0 < wrg f t (hc i) known 0 40 0
    · have h3 : ¬ wrg f t (hc i) known 0 40 0 ≤ 0 := by simpa using h2
      simp only [h2, h3, not_true_eq_false, not_false_eq_true, if_true, if_false, or_self, and_self, true_and, and_true, or_true, true_or, false_or, or_false, false_and, and_false]
      by_cases h4 : i + 1 < q
      · have h5 : ¬ nI q ≤ nI (i + 1) := nI_ge (by omega) (by omega)
        have e2 : pfr (f 2) q (i + 1) = nI (g (i + 1)) + 1 := by simp [pfr, h4, hv.cp (show i + 1 ≤ q by omega)]
        simp only [r283_49, r283_50, r283_51, r283_52, r283_53, r283_54, r283_57, r283_60, r283_61, r283_64, r283_65, r283_66, r283_67, r283_68, r283_71, r283_72, r283_75, r283_76, r283_77, r283_78, r283_81, r283_82, r283_83, r283_84, r283_85, r283_86, r283_89, mh_o h, gm_79, gm_85, WPo_some, List.getElem?_cons_succ, List.getElem?_cons_zero, kil_n, kil_i, kil_a, kil_u, kil_l, Option.toList_some, Option.toList_none, List.cons_append, List.nil_append, List.set_cons_succ, List.set_cons_zero, addm1, Nat.reduceAdd, List.length_cons, List.length_nil, Nat.reduceLT, hp.2.2.1, h5, nI_1, gI, hm_85 h, hp.2.2.2.2.2.2.2.1, nI_pos (show i < 2 ^ 31 by omega), nI_clamp (show i < 2 ^ 31 by omega), show ¬ 20 ≤ i by omega, nI_pos (show i + 1 < 2 ^ 31 by omega), nI_clamp (show i + 1 < 2 ^ 31 by omega), show ¬ 20 ≤ i + 1 by omega, not_true_eq_false, not_false_eq_true, if_true, if_false, or_self, and_self, true_and, and_true, or_true, true_or, false_or, or_false, false_and, and_false, e1, e2, nI_sub1]
        exact ih _
      · have h5 : nI q ≤ nI (i + 1) := nI_le (by omega) (by omega)
        simp only [r283_49, r283_50, r283_51, r283_52, r283_53, r283_54, r283_57, r283_60, r283_61, r283_64, r283_65, r283_66, r283_67, r283_68, r283_71, r283_72, r283_75, r283_76, r283_77, r283_78, r283_81, r283_82, r283_83, r283_84, r283_85, r283_86, r283_89, mh_o h, gm_79, gm_80, gm_85, WPo_some, List.getElem?_cons_succ, List.getElem?_cons_zero, kil_n, kil_i, kil_a, kil_u, kil_l, Option.toList_some, Option.toList_none, List.cons_append, List.nil_append, List.set_cons_succ, List.set_cons_zero, addm1, Nat.reduceAdd, List.length_cons, List.length_nil, Nat.reduceLT, hp.2.2.1, hp.2.2.2.1, h5, nI_1, gI, hm_85 h, hp.2.2.2.2.2.2.2.1, nI_pos (show i < 2 ^ 31 by omega), nI_clamp (show i < 2 ^ 31 by omega), show ¬ 20 ≤ i by omega, not_true_eq_false, not_false_eq_true, if_true, if_false, or_self, and_self, true_and, and_true, or_true, true_or, false_or, or_false, false_and, and_false, e1, hv.cp (Nat.le_refl q), nI_sub1]
        have h6 := ih (w + (nI (g (i + 1)) - nI (g i)))
        rw [show i + 1 = q by omega] at h6 ⊢
        exact h6
    · have h3 : wrg f t (hc i) known 0 40 0 ≤ 0 := by simpa using h2
      simp only [h2, h3, not_true_eq_false, not_false_eq_true, if_true, if_false, or_self, and_self, true_and, and_true, or_true, true_or, false_or, or_false, false_and, and_false, r283_86, r283_89, WPo_some, List.getElem?_cons_succ, List.getElem?_cons_zero, kil_n, kil_i, kil_a, kil_u, kil_l, Option.toList_some, Option.toList_none, List.cons_append, List.nil_append, List.set_cons_succ, List.set_cons_zero, addm1, Nat.reduceAdd, List.length_cons, List.length_nil, Nat.reduceLT, nI_1]
      exact ih w
theorem m_bad (h : MO E ah m ma) (hp : PM v ai f n q t d) (hv : PIv f n q g hc) (hq : q ≤ 20) (hn : n ≤ 100) (ht : t ≤ 60) {known : Int32} : EV E (c + 2) 283 [.ref m, .int known] (mh E ah m ma v ai al) (some (.int (bdV f g hc t q known))) (mh E ah m ma (vu (vu v 1 (.int 0)) 0 (.int (bdS known))) ai al) := by
  have hp' : PM (vu (vu v 1 (.int 0)) 0 (.int 0)) ai f n q t d := hp.x
  refine e283 ?_
  by_cases h2 : 0 ≤ known.toInt ∧ known.toInt ≤ 9999
  · have e3 : bdS known = 0 := by simp [bdS, h2]
    simp only [r283_0, r283_1, r283_2, r283_5, r283_6, r283_7, r283_10, r283_11, r283_12, r283_13, r283_19, r283_22, r283_23, r283_27, r283_28, r283_29, r283_30, r283_31, mh_o h, pm_0, pm_1, WPo_some, List.getElem?_cons_succ, List.getElem?_cons_zero, kil_n, kil_i, kil_a, kil_u, kil_l, Option.toList_some, Option.toList_none, List.cons_append, List.nil_append, List.set_cons_succ, List.set_cons_zero, addm1, Nat.reduceAdd, List.length_cons, List.length_nil, Nat.reduceLT, mh_put h, q283_16 m_isIn, i64_lt, i64_le, i2l_toInt, Int64.reduceToInt, b2i_eq0, h2, not_true_eq_false, not_false_eq_true, if_true, if_false, or_self, and_self, true_and, and_true, or_true, true_or, false_or, or_false, false_and, and_false, e3, bdV]
    exact l_badM h hp' hv hq hn ht known q 0 0 (by omega)
  · have e3 : bdS known = 5 := by simp [bdS, h2]
    simp only [r283_0, r283_1, r283_2, r283_5, r283_6, r283_7, r283_10, r283_11, r283_12, r283_13, r283_19, r283_22, r283_23, r283_27, r283_28, r283_29, r283_30, r283_31, mh_o h, pm_0, pm_1, WPo_some, List.getElem?_cons_succ, List.getElem?_cons_zero, kil_n, kil_i, kil_a, kil_u, kil_l, Option.toList_some, Option.toList_none, List.cons_append, List.nil_append, List.set_cons_succ, List.set_cons_zero, addm1, Nat.reduceAdd, List.length_cons, List.length_nil, Nat.reduceLT, mh_put h, q283_16 m_isIn, i64_lt, i64_le, i2l_toInt, Int64.reduceToInt, b2i_eq0, h2, not_true_eq_false, not_false_eq_true, if_true, if_false, or_self, and_self, true_and, and_true, or_true, true_or, false_or, or_false, false_and, and_false, q283_24 (m_refuse h) h.ci, vu_vu, e3, bdV]
    simp
end PLM3

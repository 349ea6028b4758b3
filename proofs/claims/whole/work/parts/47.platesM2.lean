/-! Plates of the model: tell, print, says, wrong, bad -/
section PLM2
variable {E : aEnv} {c m : Nat} {ah : aHp} {ma : Nat → Nat} {v : Nat → Value} {ai : Nat → Nat → Int32} {al : Nat → Nat → Int64}
variable {f : Nat → Nat → Int32} {n q t : Nat} {d day row num : Int32} {g hc : Nat → Nat}
theorem nI_60 {n : Nat} (h : n ≤ 60) : (nI n = 60) = (60 ≤ n) := by
  have := nI_eq (a := n) (b := 60) (by omega) (by omega)
  apply propext
  constructor
  · intro z
    have := this.mp z
    omega
  · intro z
    exact this.mpr (by omega)
theorem nI_20 {n : Nat} (h : n ≤ 20) : (nI n = 20) = (20 ≤ n) := by
  have := nI_eq (a := n) (b := 20) (by omega) (by omega)
  apply propext
  constructor
  · intro z
    have := this.mp z
    omega
  · intro z
    exact this.mpr (by omega)
theorem m_tell_no (h : MO E ah m ma) (hp : PM v ai f n q t d) (hn : t ≤ 60) (hs : ¬ rowSt d day row num (60 ≤ t) = 0) : EV E (c + 2) 276 [.ref m, .int day, .int row, .int num] (mh E ah m ma v ai al) (some (.int 0)) (mh E ah m ma (vu (vu (vu v 1 (.int 0)) 0 (.int 0)) 0 (.int (rowSt d day row num (60 ≤ t)))) ai al) := by
  refine e276 ?_
  obtain ⟨p1, p2, p3, p4, p5, p6, p7, p8, p9, p10, p11, p12⟩ := hp
  have e1 : vu (vu v 1 (.int 0)) 0 (.int 0) 77 = .int d := by simp [vu, p1]
  have e2 : vu (vu v 1 (.int 0)) 0 (.int 0) 81 = .int (nI t) := by simp [vu, p5]
  simp only [r276_0, r276_1, r276_2, r276_5, r276_6, r276_7, r276_10, r276_14, r276_17, r276_18, r276_22 (x := 0) (Or.inl rfl), r276_22 (x := 1) (Or.inr rfl), r276_22 (b2i_or _), r276_23, r276_24, r276_25, r276_26, r276_32, r276_35, r276_39, r276_42, r276_43, r276_47 (x := 0) (Or.inl rfl), r276_47 (x := 1) (Or.inr rfl), r276_47 (b2i_or _), r276_48, r276_49, r276_52, r276_54, r276_57, r276_58, r276_63 (x := 0) (Or.inl rfl), r276_63 (x := 1) (Or.inr rfl), r276_63 (b2i_or _), r276_64, r276_65, r276_66, r276_69, r276_72, r276_73, r276_78 (x := 0) (Or.inl rfl), mh_o h, pm_0, pm_1, gm_77, gm_81, WPo_some, List.getElem?_cons_succ, List.getElem?_cons_zero, kil_n, kil_i, kil_a, kil_u, kil_l, Option.toList_some, Option.toList_none, List.cons_append, List.nil_append, List.set_cons_succ, List.set_cons_zero, addm1, Nat.reduceAdd, List.length_cons, List.length_nil, Nat.reduceLT, mh_put h, q276_11 m_isRow, q276_29 m_isIn, q276_36 m_isNumber, q276_19 (m_no h) h.ci, q276_44 (m_no h) h.ci, q276_60 (m_no h) h.ci, q276_75 (m_no h) h.ci, b2i_eq0, e1, e2, nI_60 hn, i32_lt, i32_le, i64_lt, i64_le, i2l_toInt, Int32.reduceToInt, Int64.reduceToInt]
  unfold rowSt at hs ⊢
  repeat' split
  all_goals first | exact ⟨rfl, rfl⟩ | (exfalso; omega) | (exfalso; simp_all; done) | (simp_all; done)
theorem m_tell_ok (h : MO E ah m ma) (hp : PM v ai f n q t d) (hn : t ≤ 60) (hs : rowSt d day row num (60 ≤ t) = 0) : EV E (c + 2) 276 [.ref m, .int day, .int row, .int num] (mh E ah m ma v ai al) (some (.int 1)) (mh E ah m ma (vu (vu (vu (vu v 1 (.int 0)) 0 (.int 0)) 81 (.int (nI (t + 1)))) 77 (.int day)) (iu (iu (iu ai 87 (upd (f 4) t day)) 88 (upd (f 5) t row)) 89 (upd (f 6) t num)) al) := by
  refine e276 ?_
  obtain ⟨p1, p2, p3, p4, p5, p6, p7, p8, p9, p10, p11, p12⟩ := hp
  have e1 : vu (vu v 1 (.int 0)) 0 (.int 0) 77 = .int d := by simp [vu, p1]
  have e2 : vu (vu v 1 (.int 0)) 0 (.int 0) 81 = .int (nI t) := by simp [vu, p5]
  obtain ⟨s1, s2, s3, s4⟩ := rowSt_0 hs
  simp only [r276_0, r276_1, r276_2, r276_5, r276_6, r276_7, r276_10, r276_14, r276_17, r276_18, r276_22 (x := 0) (Or.inl rfl), r276_22 (x := 1) (Or.inr rfl), r276_22 (b2i_or _), r276_23, r276_24, r276_25, r276_26, r276_32, r276_35, r276_39, r276_42, r276_43, r276_47 (x := 0) (Or.inl rfl), r276_47 (x := 1) (Or.inr rfl), r276_47 (b2i_or _), r276_48, r276_49, r276_52, r276_54, r276_57, r276_58, r276_63 (x := 0) (Or.inl rfl), r276_63 (x := 1) (Or.inr rfl), r276_63 (b2i_or _), r276_64, r276_65, r276_66, r276_69, r276_72, r276_73, r276_78 (x := 0) (Or.inl rfl), r276_78 (x := 1) (Or.inr rfl), r276_78 (b2i_or _), r276_79, r276_80, r276_83, r276_84, r276_87, r276_88, r276_89, r276_90, r276_93, r276_94, r276_97, r276_98, r276_99, r276_100, r276_103, r276_104, r276_107, r276_108, r276_109, r276_110, r276_110i, r276_111, r276_114, r276_115, r276_116, r276_119, r276_120, r276_121, r276_124, r276_125 (x := 0) (Or.inl rfl), r276_125 (x := 1) (Or.inr rfl), r276_125 (b2i_or _), mh_o h, pm_0, pm_1, pm_77, pm_81, gm_77, gm_81, gm_87, gm_88, gm_89, WPo_some, List.getElem?_cons_succ, List.getElem?_cons_zero, kil_n, kil_i, kil_a, kil_u, kil_l, Option.toList_some, Option.toList_none, List.cons_append, List.nil_append, List.set_cons_succ, List.set_cons_zero, addm1, Nat.reduceAdd, List.length_cons, List.length_nil, Nat.reduceLT, mh_put h, q276_11 m_isRow, q276_29 m_isIn, q276_36 m_isNumber, b2i_eq0, e1, e2, nI_60 hn, i64_lt, i64_le, i2l_toInt, Int64.reduceToInt, pI, hm_87 h, hm_88 h, hm_89 h, sm_87 h, sm_88 h, sm_89 h, p10, p11, p12, iu, nI_1, s1.1, s1.2, s2.1.1, s2.1.2, s2.2.1, s2.2.2, s3, s4, not_true_eq_false, not_false_eq_true, if_true, if_false, or_self, and_self, true_and, and_true, or_true, true_or, false_or, or_false, false_and, and_false, nI_pos (show t < 2 ^ 31 by omega), nI_clamp (show t < 2 ^ 31 by omega), Nat.reduceEqDiff]
theorem m_print_no (h : MO E ah m ma) (hp : PM v ai f n q t d) (hn : q ≤ 20) {copies : Int32} (hs : ¬ prSt q d day copies = 0) : EV E (c + 2) 275 [.ref m, .int day, .int copies] (mh E ah m ma v ai al) (some (.int (-1))) (mh E ah m ma (vu (vu (vu v 1 (.int 0)) 0 (.int 0)) 0 (.int (prSt q d day copies))) ai al) := by
  refine e275 ?_
  obtain ⟨p1, p2, p3, p4, p5, p6, p7, p8, p9, p10, p11, p12⟩ := hp
  have e1 : vu (vu v 1 (.int 0)) 0 (.int 0) 77 = .int d := by simp [vu, p1]
  have e2 : vu (vu v 1 (.int 0)) 0 (.int 0) 79 = .int (nI q) := by simp [vu, p3]
  simp only [r275_0, r275_1, r275_2, r275_5, r275_6, r275_7, r275_10, r275_11, r275_12, r275_13, r275_19, r275_22, r275_23, r275_24, r275_25, r275_31, r275_34, r275_35, r275_39, r275_40, r275_41, r275_44, r275_46, r275_49, r275_50, r275_55, r275_56, r275_57, r275_58, r275_61, r275_64, r275_65, r275_70, mh_o h, pm_0, pm_1, gm_77, gm_79, WPo_some, List.getElem?_cons_succ, List.getElem?_cons_zero, kil_n, kil_i, kil_a, kil_u, kil_l, Option.toList_some, Option.toList_none, List.cons_append, List.nil_append, List.set_cons_succ, List.set_cons_zero, addm1, Nat.reduceAdd, List.length_cons, List.length_nil, Nat.reduceLT, mh_put h, q275_16 m_isIn, q275_28 m_isIn, q275_36 (m_refuse h) h.ci, q275_52 (m_refuse h) h.ci, q275_67 (m_refuse h) h.ci, b2i_eq0, e1, e2, nI_20 hn, i32_lt, i32_le, i64_lt, i64_le, i2l_toInt, Int32.reduceToInt, Int64.reduceToInt]
  unfold prSt at hs ⊢
  repeat' split
  all_goals first | exact ⟨rfl, rfl⟩ | (exfalso; omega) | (exfalso; simp_all; done) | (simp_all; done)
theorem m_print_ok (h : MO E ah m ma) (hp : PM v ai f n q t d) (hn : q ≤ 20) {copies : Int32} (hs : prSt q d day copies = 0) : EV E (c + 2) 275 [.ref m, .int day, .int copies] (mh E ah m ma v ai al) (some (.int (cpz (f 2) q + copies))) (mh E ah m ma (vu (vu (vu (vu (vu v 1 (.int 0)) 0 (.int 0)) 79 (.int (nI (q + 1)))) 80 (.int (cpz (f 2) q + copies))) 77 (.int day)) (iu (iu ai 85 (upd (pfr (f 2) q) q (cpz (f 2) q + 1))) 86 (upd (f 3) q (nI n))) al) := by
  refine e275 ?_
  obtain ⟨p1, p2, p3, p4, p5, p6, p7, p8, p9, p10, p11, p12⟩ := hp
  have e1 : vu (vu v 1 (.int 0)) 0 (.int 0) 77 = .int d := by simp [vu, p1]
  have e2 : vu (vu v 1 (.int 0)) 0 (.int 0) 79 = .int (nI q) := by simp [vu, p3]
  have e3 : vu (vu v 1 (.int 0)) 0 (.int 0) 80 = .int (cpz (f 2) q) := by simp [vu, p4]
  have e4 : vu (vu v 1 (.int 0)) 0 (.int 0) 78 = .int (nI n) := by simp [vu, p2]
  have e5 : ∀ x y, vu (vu (vu (vu v 1 (.int 0)) 0 (.int 0)) 79 x) 80 y 80 = y := fun x y => by simp [vu]
  have e6 : ∀ x y z, vu (vu (vu (vu (vu v 1 (.int 0)) 0 (.int 0)) 79 x) 80 y) 77 z 80 = y := fun x y z => by simp [vu]
  have e7 : ∀ x, vu (vu (vu v 1 (.int 0)) 0 (.int 0)) 79 x 80 = .int (cpz (f 2) q) := fun x => by simp [vu, p4]
  obtain ⟨s2, s3, s4⟩ := prSt_0 hs
  simp only [r275_0, r275_1, r275_2, r275_5, r275_6, r275_7, r275_10, r275_11, r275_12, r275_13, r275_19, r275_22, r275_23, r275_24, r275_25, r275_31, r275_34, r275_35, r275_39, r275_40, r275_41, r275_44, r275_46, r275_49, r275_50, r275_55, r275_56, r275_57, r275_58, r275_61, r275_64, r275_65, r275_70, r275_71, r275_72, r275_75, r275_76, r275_79, r275_80, r275_83, r275_84, r275_85, r275_86, r275_87, r275_90, r275_91, r275_94, r275_95, r275_98, r275_99, r275_100, r275_100i, r275_101, r275_104, r275_105, r275_106, r275_109, r275_110, r275_110i, r275_111, r275_114, r275_115, r275_116, r275_119, r275_120, r275_121, r275_124, r275_125, r275_128, mh_o h, pm_0, pm_1, pm_77, pm_79, pm_80, gm_77, gm_78, gm_79, gm_80, gm_85, gm_86, WPo_some, List.getElem?_cons_succ, List.getElem?_cons_zero, kil_n, kil_i, kil_a, kil_u, kil_l, Option.toList_some, Option.toList_none, List.cons_append, List.nil_append, List.set_cons_succ, List.set_cons_zero, addm1, Nat.reduceAdd, List.length_cons, List.length_nil, Nat.reduceLT, mh_put h, q275_16 m_isIn, q275_28 m_isIn, b2i_eq0, e1, e2, e3, e4, e5, e6, e7, nI_20 hn, i64_lt, i64_le, i2l_toInt, Int64.reduceToInt, pI, hm_85 h, hm_86 h, sm_85 h, sm_86 h, p8, p9, iu, nI_1, s2.1.1, s2.1.2, s2.2.1, s2.2.2, show ¬ 20 ≤ q by omega, s4, not_true_eq_false, not_false_eq_true, if_true, if_false, or_self, and_self, true_and, and_true, or_true, true_or, false_or, or_false, false_and, and_false, nI_pos (show q < 2 ^ 31 by omega), nI_clamp (show q < 2 ^ 31 by omega), Nat.reduceEqDiff]
theorem m_isCopy (h : MO E ah m ma) (hp : PM v ai f n q t d) (hv : PIv f n q g hc) (hq : q ≤ 20) {x : Int32} : EV E (c + 1) 277 [.ref m, .int x] (mh E ah m ma v ai al) (some (.int (b2i (1 ≤ x.toInt ∧ x.toInt ≤ g q)))) (mh E ah m ma v ai al) := by
  refine e277 ?_
  obtain ⟨p1, p2, p3, p4, p5, p6, p7, p8, p9, p10, p11, p12⟩ := hp
  have hg := hv.le (Nat.le_refl q)
  simp only [r277_0, r277_1, r277_2, r277_3, r277_4, r277_7, r277_11 (x := 0) (Or.inl rfl), r277_11 (x := 1) (Or.inr rfl), r277_11 (b2i_or _), mh_o h, gm_80, WPo_some, List.getElem?_cons_succ, List.getElem?_cons_zero, kil_n, kil_i, kil_a, kil_u, kil_l, Option.toList_some, Option.toList_none, List.cons_append, List.nil_append, List.set_cons_succ, List.set_cons_zero, addm1, Nat.reduceAdd, List.length_cons, List.length_nil, Nat.reduceLT, p4, hv.cp (Nat.le_refl q), q277_8 m_isIn, i64_lt, i64_le, i2l_toInt, Int64.reduceToInt, nI_toInt (show g q < 2 ^ 31 by omega)]
  simp
theorem l_printingOfM (h : MO E ah m ma) (hp : PM v ai f n q t d) (hv : PIv f n q g hc) (hq : q ≤ 20) {x : Int32} (h1 : 1 ≤ x.toInt) : ∀ k, 0 < k → k ≤ q → WP E c 278 7 [some (.ref m), some (.int x), some (.int (nI k - 1))] [] (mh E ah m ma v ai al) (fun r1 x1 => r1 = some (.int (nI (pIdx g x.toInt k))) ∧ x1 = mh E ah m ma v ai al)
  | 0, hk, _ => by omega
  | k + 1, hk, hkq => by
    have hp' := hp
    obtain ⟨p1, p2, p3, p4, p5, p6, p7, p8, p9, p10, p11, p12⟩ := hp
    have hgk := hv.le (show k ≤ q by omega)
    have e1 : pfr (f 2) q k = nI (g k) + 1 := by simp [pfr, show k < q by omega, hv.cp (show k ≤ q by omega)]
    rw [nI_pred, r278_7]
    simp only [r278_0, r278_1, r278_4, r278_5, r278_6, r278_8, r278_11, r278_12, r278_13, r278_14, r278_17, r278_20, r278_23, r278_24, mh_o h, gm_85, WPo_some, List.getElem?_cons_succ, List.getElem?_cons_zero, kil_n, kil_i, kil_a, kil_u, kil_l, Option.toList_some, Option.toList_none, List.cons_append, List.nil_append, List.set_cons_succ, List.set_cons_zero, addm1, Nat.reduceAdd, List.length_cons, List.length_nil, Nat.reduceLT, gI, hm_85 h, p8, nI_pos (show k < 2 ^ 31 by omega), nI_clamp (show k < 2 ^ 31 by omega), show ¬ 20 ≤ k by omega, not_true_eq_false, not_false_eq_true, if_true, if_false, or_self, and_self, true_and, and_true, or_true, true_or, false_or, or_false, false_and, and_false, e1, nI_1, i32_le, nI_toInt (show g k + 1 < 2 ^ 31 by omega)]
    unfold pIdx
    by_cases h2 : (g k : Int) < x.toInt
    · have h3 : ((g k + 1 : Nat) : Int) ≤ x.toInt := by omega
      simp only [h2, h3, if_true, and_self]
    · have h3 : ¬ ((g k + 1 : Nat) : Int) ≤ x.toInt := by omega
      have h4 : 0 < k := by
        rcases Nat.eq_zero_or_pos k with z | z
        · subst z
          rw [hv.1] at h2
          omega
        · exact z
      simp only [h2, h3, if_false]
      exact l_printingOfM h hp' hv hq h1 k h4 (by omega)
theorem m_printingOf (h : MO E ah m ma) (hp : PM v ai f n q t d) (hv : PIv f n q g hc) (hq : q ≤ 20) {x : Int32} (h1 : 1 ≤ x.toInt) (h2 : x.toInt ≤ g q) : EV E c 278 [.ref m, .int x] (mh E ah m ma v ai al) (some (.int (nI (pIdx g x.toInt q)))) (mh E ah m ma v ai al) := by
  refine e278 ?_
  have hq0 : 0 < q := by
    rcases Nat.eq_zero_or_pos q with z | z
    · subst z
      rw [hv.1] at h2
      omega
    · exact z
  simp only [r278_0, r278_1, r278_4, r278_5, r278_6, mh_o h, gm_79, WPo_some, List.getElem?_cons_succ, List.getElem?_cons_zero, kil_n, kil_i, kil_a, kil_u, kil_l, Option.toList_some, Option.toList_none, List.cons_append, List.nil_append, List.set_cons_succ, List.set_cons_zero, addm1, Nat.reduceAdd, List.length_cons, List.length_nil, Nat.reduceLT, hp.2.2.1]
  exact l_printingOfM h hp hv hq h1 q hq0 (Nat.le_refl _)
theorem said_s (cr cn : Nat → Int32) (row : Int32) (m : Nat) : said cr cn row (m + 1) = if cr m = row then cn m else said cr cn row m := rfl
theorem ltell_s (td tr : Nat → Int32) (row known : Int32) (m : Nat) : ltell td tr row known (m + 1) = if tr m = row ∧ td m ≤ known then nI m else ltell td tr row known m := rfl
theorem l_saysOf (h : MO E ah m ma) (hp : PM v ai f n q t d) (hv : PIv f n q g hc) (hq : q ≤ 20) (hn : n ≤ 100) {i : Nat} (hi : i < q) (row : Int32) : ∀ k j, j + k = hc i → WP E c 279 5 [some (.ref m), some (.int (nI i)), some (.int row), some (.int (said (f 0) (f 1) row j)), some (.int (nI j))] [] (mh E ah m ma v ai al) (fun r1 x1 => r1 = some (.int (said (f 0) (f 1) row (hc i))) ∧ x1 = mh E ah m ma v ai al)
  | 0, j, hk => by
    obtain ⟨-, -, -, e2, e3⟩ := hv.2 i hi
    have h1 : nI (hc i) ≤ nI j := nI_le (by omega) (by omega)
    rw [r279_5]
    simp only [r279_7, r279_8, r279_11, r279_12, r279_13, r279_41, r279_42, mh_o h, gm_86, WPo_some, List.getElem?_cons_succ, List.getElem?_cons_zero, kil_n, kil_i, kil_a, kil_u, kil_l, Option.toList_some, Option.toList_none, List.cons_append, List.nil_append, List.set_cons_succ, List.set_cons_zero, addm1, Nat.reduceAdd, List.length_cons, List.length_nil, Nat.reduceLT, gI, hm_86 h, hp.2.2.2.2.2.2.2.2.1, e2, nI_pos (show i < 2 ^ 31 by omega), nI_clamp (show i < 2 ^ 31 by omega), show ¬ 20 ≤ i by omega, h1, not_true_eq_false, not_false_eq_true, if_true, if_false, or_self, and_self, true_and, and_true, or_true, true_or, false_or, or_false, false_and, and_false]
    rw [show j = hc i by omega]
  | k + 1, j, hk => by
    obtain ⟨-, -, -, e2, e3⟩ := hv.2 i hi
    have h1 : ¬ nI (hc i) ≤ nI j := nI_ge (by omega) (by omega)
    have ih := l_saysOf h hp hv hq hn hi row k (j + 1) (by omega)
    rw [said_s] at ih
    rw [r279_5]
    simp only [r279_0, r279_1, r279_2, r279_3, r279_7, r279_8, r279_11, r279_12, r279_13, r279_16, r279_17, r279_20, r279_22, r279_23, r279_24, r279_27, r279_28, r279_31, r279_33, r279_34, r279_35, r279_38, r279_41, r279_42, mh_o h, gm_86, gm_83, gm_84, WPo_some, List.getElem?_cons_succ, List.getElem?_cons_zero, kil_n, kil_i, kil_a, kil_u, kil_l, Option.toList_some, Option.toList_none, List.cons_append, List.nil_append, List.set_cons_succ, List.set_cons_zero, addm1, Nat.reduceAdd, List.length_cons, List.length_nil, Nat.reduceLT, gI, hm_86 h, hm_83 h, hm_84 h, hp.2.2.2.2.2.2.2.2.1, hp.2.2.2.2.2.1, hp.2.2.2.2.2.2.1, e2, nI_pos (show i < 2 ^ 31 by omega), nI_clamp (show i < 2 ^ 31 by omega), show ¬ 20 ≤ i by omega, nI_pos (show j < 2 ^ 31 by omega), nI_clamp (show j < 2 ^ 31 by omega), show ¬ 100 ≤ j by omega, h1, not_true_eq_false, not_false_eq_true, if_true, if_false, or_self, and_self, true_and, and_true, or_true, true_or, false_or, or_false, false_and, and_false, nI_1]
    by_cases h2 : f 0 j = row
    · simp only [h2, not_true_eq_false, not_false_eq_true, if_true, if_false, or_self, and_self, true_and, and_true, or_true, true_or, false_or, or_false, false_and, and_false] at ih ⊢
      exact ih
    · simp only [h2, not_true_eq_false, not_false_eq_true, if_true, if_false, or_self, and_self, true_and, and_true, or_true, true_or, false_or, or_false, false_and, and_false] at ih ⊢
      exact ih
theorem m_saysOf (h : MO E ah m ma) (hp : PM v ai f n q t d) (hv : PIv f n q g hc) (hq : q ≤ 20) (hn : n ≤ 100) {i : Nat} (hi : i < q) {row : Int32} : EV E c 279 [.ref m, .int (nI i), .int row] (mh E ah m ma v ai al) (some (.int (said (f 0) (f 1) row (hc i)))) (mh E ah m ma v ai al) := by
  refine e279 ?_
  simp only [r279_0, r279_1, r279_2, r279_3, WPo_some, List.getElem?_cons_succ, List.getElem?_cons_zero, kil_n, kil_i, kil_a, kil_u, kil_l, Option.toList_some, Option.toList_none, List.cons_append, List.nil_append, List.set_cons_succ, List.set_cons_zero, addm1, Nat.reduceAdd, List.length_cons, List.length_nil, Nat.reduceLT]
  exact l_saysOf h hp hv hq hn hi row (hc i) 0 (by omega)
theorem l_ltellM (h : MO E ah m ma) (hp : PM v ai f n q t d) (ht : t ≤ 60) {P : Option Value → aHp → Prop} {pr known w : Int32} {row : Nat} (kk : WP E c 281 60 [some (.ref m), some (.int pr), some (.int known), some (.int w), some (.int (nI row)), some (.int (ltell (f 4) (f 5) (nI row) known t)), some (.int (nI t))] [] (mh E ah m ma v ai al) P) : ∀ k j, j + k = t → WP E c 281 18 [some (.ref m), some (.int pr), some (.int known), some (.int w), some (.int (nI row)), some (.int (ltell (f 4) (f 5) (nI row) known j)), some (.int (nI j))] [] (mh E ah m ma v ai al) P
  | 0, j, hk => by
    obtain ⟨p1, p2, p3, p4, p5, p6, p7, p8, p9, p10, p11, p12⟩ := hp
    have h1 : nI t ≤ nI j := nI_le (by omega) (by omega)
    rw [r281_18]
    simp only [r281_20, r281_21, r281_24, mh_o h, gm_81, WPo_some, List.getElem?_cons_succ, List.getElem?_cons_zero, kil_n, kil_i, kil_a, kil_u, kil_l, Option.toList_some, Option.toList_none, List.cons_append, List.nil_append, List.set_cons_succ, List.set_cons_zero, addm1, Nat.reduceAdd, List.length_cons, List.length_nil, Nat.reduceLT, p5, h1, not_true_eq_false, not_false_eq_true, if_true, if_false, or_self, and_self, true_and, and_true, or_true, true_or, false_or, or_false, false_and, and_false]
    rw [show j = t by omega]
    exact kk
  | k + 1, j, hk => by
    have ih := l_ltellM h hp ht kk k (j + 1) (by omega)
    obtain ⟨p1, p2, p3, p4, p5, p6, p7, p8, p9, p10, p11, p12⟩ := hp
    have h1 : ¬ nI t ≤ nI j := nI_ge (by omega) (by omega)
    rw [ltell_s] at ih
    rw [r281_18]
    simp only [r281_20, r281_21, r281_24, r281_27, r281_28, r281_31, r281_33, r281_34, r281_36, r281_39, r281_40, r281_43, r281_45, r281_46, r281_47, r281_50, r281_52, r281_54, r281_57, mh_o h, gm_81, gm_87, gm_88, WPo_some, List.getElem?_cons_succ, List.getElem?_cons_zero, kil_n, kil_i, kil_a, kil_u, kil_l, Option.toList_some, Option.toList_none, List.cons_append, List.nil_append, List.set_cons_succ, List.set_cons_zero, addm1, Nat.reduceAdd, List.length_cons, List.length_nil, Nat.reduceLT, p5, h1, gI, hm_87 h, hm_88 h, p10, p11, nI_pos (show j < 2 ^ 31 by omega), nI_clamp (show j < 2 ^ 31 by omega), show ¬ 60 ≤ j by omega, not_true_eq_false, not_false_eq_true, if_true, if_false, or_self, and_self, true_and, and_true, or_true, true_or, false_or, or_false, false_and, and_false, nI_1]
    by_cases h2 : f 5 j = nI row
    · by_cases h3 : f 4 j ≤ known
      · have h4 : ¬ known < f 4 j := by simpa using h3
        simp only [h2, h3, h4, not_true_eq_false, not_false_eq_true, if_true, if_false, or_self, and_self, true_and, and_true, or_true, true_or, false_or, or_false, false_and, and_false] at ih ⊢
        exact ih
      · have h4 : known < f 4 j := by simpa using h3
        simp only [h2, h3, h4, not_true_eq_false, not_false_eq_true, if_true, if_false, or_self, and_self, true_and, and_true, or_true, true_or, false_or, or_false, false_and, and_false] at ih ⊢
        exact ih
    · simp only [h2, not_true_eq_false, not_false_eq_true, if_true, if_false, or_self, and_self, true_and, and_true, or_true, true_or, false_or, or_false, false_and, and_false] at ih ⊢
      exact ih
theorem l_wrongOf (h : MO E ah m ma) (hp : PM v ai f n q t d) (hv : PIv f n q g hc) (hq : q ≤ 20) (hn : n ≤ 100) (ht : t ≤ 60) {i : Nat} (hi : i < q) (known : Int32) : ∀ k row w a5 a6, row + k = 40 → WP E (c + 1) 281 5 [some (.ref m), some (.int (nI i)), some (.int known), some (.int w), some (.int (nI row)), a5, a6] [] (mh E ah m ma v ai al) (fun r1 x1 => r1 = some (.int (wrg f t (hc i) known row k w)) ∧ x1 = mh E ah m ma v ai al)
  | 0, row, w, a5, a6, hk => by
    have h1 : (40 : Int32) ≤ nI row := nI_le (a := 40) (by omega) (by omega)
    rw [r281_5, r281_7, r281_9]
    simp only [r281_96, r281_97, WPo_some, List.getElem?_cons_succ, List.getElem?_cons_zero, kil_n, kil_i, kil_a, kil_u, kil_l, Option.toList_some, Option.toList_none, List.cons_append, List.nil_append, List.set_cons_succ, List.set_cons_zero, addm1, Nat.reduceAdd, List.length_cons, List.length_nil, Nat.reduceLT, h1, if_true, wrg, and_self]
  | k + 1, row, w, a5, a6, hk => by
    have h1 : ¬ (40 : Int32) ≤ nI row := nI_ge (b := 40) (by omega) (by omega)
    rw [r281_5, r281_7, r281_9, if_neg h1]
    simp only [r281_12, r281_13, r281_15, r281_16, WPo_some, List.getElem?_cons_succ, List.getElem?_cons_zero, kil_n, kil_i, kil_a, kil_u, kil_l, Option.toList_some, Option.toList_none, List.cons_append, List.nil_append, List.set_cons_succ, List.set_cons_zero, addm1, Nat.reduceAdd, List.length_cons, List.length_nil, Nat.reduceLT]
    refine l_ltellM h hp ht ?_ t 0 (by omega)
    unfold wrg
    rcases ltell_in (f 4) (f 5) (nI row) known t with hl | ⟨j, hj, hl⟩
    · rw [hl]
      have h2 : (-1 : Int32) < 0 := by decide
      simp only [r281_60, r281_61, r281_63, r281_87, r281_88, r281_89, r281_90, r281_93, WPo_some, List.getElem?_cons_succ, List.getElem?_cons_zero, kil_n, kil_i, kil_a, kil_u, kil_l, Option.toList_some, Option.toList_none, List.cons_append, List.nil_append, List.set_cons_succ, List.set_cons_zero, addm1, Nat.reduceAdd, List.length_cons, List.length_nil, Nat.reduceLT, h2, not_true_eq_false, not_false_eq_true, if_true, if_false, or_self, and_self, true_and, and_true, or_true, true_or, false_or, or_false, false_and, and_false, Int32.add_zero, nI_1]
      exact l_wrongOf h hp hv hq hn ht hi known k (row + 1) w _ _ (by omega)
    · rw [hl]
      have h2 : ¬ nI j < 0 := nI_pos (by omega)
      have hne : ¬ nI j = -1 := nI_m1 (by omega)
      simp only [r281_60, r281_61, r281_63, r281_66, r281_67, r281_70, r281_72, r281_73, r281_74, r281_75, r281_80, r281_83, r281_84, r281_87, r281_88, r281_89, r281_90, r281_93, mh_o h, gm_89, WPo_some, List.getElem?_cons_succ, List.getElem?_cons_zero, kil_n, kil_i, kil_a, kil_u, kil_l, Option.toList_some, Option.toList_none, List.cons_append, List.nil_append, List.set_cons_succ, List.set_cons_zero, addm1, Nat.reduceAdd, List.length_cons, List.length_nil, Nat.reduceLT, h2, hne, gI, hm_89 h, hp.2.2.2.2.2.2.2.2.2.2.2, nI_clamp (show j < 2 ^ 31 by omega), show ¬ 60 ≤ j by omega, not_true_eq_false, not_false_eq_true, if_true, if_false, or_self, and_self, true_and, and_true, or_true, true_or, false_or, or_false, false_and, and_false, q281_77 (m_saysOf h hp hv hq hn hi) h.ci, nI_1]
      by_cases he : f 6 j = said (f 0) (f 1) (nI row) (hc i)
      · simp only [he, not_true_eq_false, not_false_eq_true, if_true, if_false, or_self, and_self, true_and, and_true, or_true, true_or, false_or, or_false, false_and, and_false, Int32.add_zero]
        exact l_wrongOf h hp hv hq hn ht hi known k (row + 1) w _ _ (by omega)
      · simp only [he, not_true_eq_false, not_false_eq_true, if_true, if_false, or_self, and_self, true_and, and_true, or_true, true_or, false_or, or_false, false_and, and_false]
        exact l_wrongOf h hp hv hq hn ht hi known k (row + 1) (w + 1) _ _ (by omega)
theorem m_wrongOf (h : MO E ah m ma) (hp : PM v ai f n q t d) (hv : PIv f n q g hc) (hq : q ≤ 20) (hn : n ≤ 100) (ht : t ≤ 60) {i : Nat} (hi : i < q) {known : Int32} : EV E (c + 1) 281 [.ref m, .int (nI i), .int known] (mh E ah m ma v ai al) (some (.int (wrg f t (hc i) known 0 40 0))) (mh E ah m ma v ai al) := by
  refine e281 ?_
  simp only [r281_0, r281_1, r281_2, r281_3, WPo_some, List.getElem?_cons_succ, List.getElem?_cons_zero, kil_n, kil_i, kil_a, kil_u, kil_l, Option.toList_some, Option.toList_none, List.cons_append, List.nil_append, List.set_cons_succ, List.set_cons_zero, addm1, Nat.reduceAdd, List.length_cons, List.length_nil, Nat.reduceLT]
  exact l_wrongOf h hp hv hq hn ht hi known 40 0 0 _ _ (by omega)
end PLM2

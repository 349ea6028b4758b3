/-! Plates of the model -/
section PLM
variable {E : aEnv} {c m : Nat} {ah : aHp} {ma : Nat → Nat} {v : Nat → Value} {ai : Nat → Nat → Int32} {al : Nat → Nat → Int64}
theorem MO.ci (h : MO E ah m ma) : oCI (hg E (mh E ah m ma v ai al) m) = 11 := by rw [mh_o h]; rfl
theorem m_isIn {ah : aHp} {x lo hi : Int64} : EV E c 199 [.long x, .long lo, .long hi] ah (some (.int (b2i (lo ≤ x ∧ x ≤ hi)))) ah := by
  refine e199 ?_
  simp only [r199_0, r199_1, r199_2, r199_3, r199_6, r199_7, r199_9, r199_10, r199_13, r199_14, r199_17, r199_18 (x := 0) (Or.inl rfl), r199_18 (x := 1) (Or.inr rfl), r199_18 (b2i_or _), lg_cmp_lt, lg_cmp_gt]
  by_cases h1 : x < lo
  · have h2 : ¬ lo ≤ x := by simpa using h1
    simp [h1, h2, b2i]
  · have h2 : lo ≤ x := by simpa using h1
    by_cases h3 : hi < x
    · have h4 : ¬ x ≤ hi := by simpa using h3
      simp [h1, h2, h3, h4, b2i]
    · have h4 : x ≤ hi := by simpa using h3
      simp [h1, h2, h3, h4, b2i]
theorem m_refuse (h : MO E ah m ma) {x : Int32} : EV E c 197 [.ref m, .int x] (mh E ah m ma v ai al) (some (.int (-1))) (mh E ah m ma (vu v 0 (.int x)) ai al) := by
  refine e197 ?_
  simp only [r197_0, r197_1, r197_2, r197_5, r197_6, mh_o h, pm_0, oGF_is, WPo_some, List.getElem?_cons_succ, List.getElem?_cons_zero, kil_n, kil_i, kil_a, kil_u, kil_l, Option.toList_some, Option.toList_none, List.cons_append, List.nil_append, List.set_cons_succ, List.set_cons_zero, addm1, Nat.reduceAdd, List.length_cons, List.length_nil, Nat.reduceLT, mh_put h]
  simp
theorem m_no (h : MO E ah m ma) {x : Int32} : EV E c 198 [.ref m, .int x] (mh E ah m ma v ai al) (some (.int 0)) (mh E ah m ma (vu v 0 (.int x)) ai al) := by
  refine e198 ?_
  simp only [r198_0, r198_1, r198_2, r198_5, r198_6 (x := 0) (Or.inl rfl), r198_6 (x := 1) (Or.inr rfl), r198_6 (b2i_or _), mh_o h, pm_0, oGF_is, WPo_some, List.getElem?_cons_succ, List.getElem?_cons_zero, kil_n, kil_i, kil_a, kil_u, kil_l, Option.toList_some, Option.toList_none, List.cons_append, List.nil_append, List.set_cons_succ, List.set_cons_zero, addm1, Nat.reduceAdd, List.length_cons, List.length_nil, Nat.reduceLT, mh_put h]
  simp
theorem m_isRow {ah : aHp} {x : Int32} : EV E (c + 1) 272 [.int x] ah (some (.int (b2i (0 ≤ x.toInt ∧ x.toInt ≤ 39)))) ah := by
  refine e272 ?_
  simp only [r272_0, r272_1, r272_2, r272_3, r272_9 (x := 0) (Or.inl rfl), r272_9 (x := 1) (Or.inr rfl), r272_9 (b2i_or _), q272_6 m_isIn, oGF_is, WPo_some, List.getElem?_cons_succ, List.getElem?_cons_zero, kil_n, kil_i, kil_a, kil_u, kil_l, Option.toList_some, Option.toList_none, List.cons_append, List.nil_append, List.set_cons_succ, List.set_cons_zero, addm1, Nat.reduceAdd, List.length_cons, List.length_nil, Nat.reduceLT, i64_le, i2l_toInt]
  simp
theorem m_isNumber {ah : aHp} {x : Int32} : EV E (c + 1) 273 [.int x] ah (some (.int (b2i (-1000000000 ≤ x.toInt ∧ x.toInt ≤ 1000000000)))) ah := by
  refine e273 ?_
  simp only [r273_0, r273_1, r273_2, r273_5, r273_11 (x := 0) (Or.inl rfl), r273_11 (x := 1) (Or.inr rfl), r273_11 (b2i_or _), q273_8 m_isIn, oGF_is, WPo_some, List.getElem?_cons_succ, List.getElem?_cons_zero, kil_n, kil_i, kil_a, kil_u, kil_l, Option.toList_some, Option.toList_none, List.cons_append, List.nil_append, List.set_cons_succ, List.set_cons_zero, addm1, Nat.reduceAdd, List.length_cons, List.length_nil, Nat.reduceLT, i64_le, i2l_toInt]
  simp
/-- copies before a printing -/
noncomputable def cpz (g : Nat → Int32) (q : Nat) : Int32 := if q = 0 then 0 else g (q - 1)
noncomputable def pfr (g : Nat → Int32) (q : Nat) : Nat → Int32 := fun i => if i < q then cpz g i + 1 else 0
noncomputable def PM (v : Nat → Value) (ai : Nat → Nat → Int32) (f : Nat → Nat → Int32) (n q t : Nat) (d : Int32) : Prop :=
  v 77 = .int d ∧ v 78 = .int (nI n) ∧ v 79 = .int (nI q) ∧ v 80 = .int (cpz (f 2) q) ∧ v 81 = .int (nI t) ∧ ai 83 = f 0 ∧ ai 84 = f 1 ∧ ai 85 = pfr (f 2) q ∧ ai 86 = f 3 ∧ ai 87 = f 4 ∧ ai 88 = f 5 ∧ ai 89 = f 6
theorem nI_100 {n : Nat} (h : n ≤ 100) : (nI n = 100) = (100 ≤ n) := by
  have := nI_eq (a := n) (b := 100) (by omega) (by omega)
  apply propext
  constructor
  · intro z
    have := this.mp z
    omega
  · intro z
    exact this.mpr (by omega)
section PLC
variable {f : Nat → Nat → Int32} {n q t : Nat} {d day row num : Int32}
theorem m_cast_no (h : MO E ah m ma) (hp : PM v ai f n q t d) (hn : n ≤ 100) (hs : ¬ rowSt d day row num (100 ≤ n) = 0) : EV E (c + 2) 274 [.ref m, .int day, .int row, .int num] (mh E ah m ma v ai al) (some (.int 0)) (mh E ah m ma (vu (vu (vu v 1 (.int 0)) 0 (.int 0)) 0 (.int (rowSt d day row num (100 ≤ n)))) ai al) := by
  refine e274 ?_
  obtain ⟨p1, p2, p3, p4, p5, p6, p7, p8, p9, p10, p11, p12⟩ := hp
  have e1 : vu (vu v 1 (.int 0)) 0 (.int 0) 77 = .int d := by simp [vu, p1]
  have e2 : vu (vu v 1 (.int 0)) 0 (.int 0) 78 = .int (nI n) := by simp [vu, p2]
  simp only [r274_0, r274_1, r274_2, r274_5, r274_6, r274_7, r274_10, r274_14, r274_17, r274_18, r274_22 (x := 0) (Or.inl rfl), r274_22 (x := 1) (Or.inr rfl), r274_22 (b2i_or _), r274_23, r274_24, r274_25, r274_26, r274_32, r274_35, r274_39, r274_42, r274_43, r274_47 (x := 0) (Or.inl rfl), r274_47 (x := 1) (Or.inr rfl), r274_47 (b2i_or _), r274_48, r274_49, r274_52, r274_54, r274_57, r274_58, r274_63 (x := 0) (Or.inl rfl), r274_63 (x := 1) (Or.inr rfl), r274_63 (b2i_or _), r274_64, r274_65, r274_66, r274_69, r274_72, r274_73, r274_78 (x := 0) (Or.inl rfl), mh_o h, pm_0, pm_1, gm_77, gm_78, WPo_some, List.getElem?_cons_succ, List.getElem?_cons_zero, kil_n, kil_i, kil_a, kil_u, kil_l, Option.toList_some, Option.toList_none, List.cons_append, List.nil_append, List.set_cons_succ, List.set_cons_zero, addm1, Nat.reduceAdd, List.length_cons, List.length_nil, Nat.reduceLT, mh_put h, q274_11 m_isRow, q274_29 m_isIn, q274_36 m_isNumber, q274_19 (m_no h) h.ci, q274_44 (m_no h) h.ci, q274_60 (m_no h) h.ci, q274_75 (m_no h) h.ci, b2i_eq0, e1, e2, nI_100 hn, i32_lt, i32_le, i64_lt, i64_le, i2l_toInt, Int32.reduceToInt, Int64.reduceToInt]
  unfold rowSt at hs ⊢
  repeat' split
  all_goals first | exact ⟨rfl, rfl⟩ | (exfalso; omega) | (exfalso; simp_all; done) | (simp_all; done)
theorem m_cast_ok (h : MO E ah m ma) (hp : PM v ai f n q t d) (hn : n ≤ 100) (hs : rowSt d day row num (100 ≤ n) = 0) : EV E (c + 2) 274 [.ref m, .int day, .int row, .int num] (mh E ah m ma v ai al) (some (.int 1)) (mh E ah m ma (vu (vu (vu (vu v 1 (.int 0)) 0 (.int 0)) 78 (.int (nI (n + 1)))) 77 (.int day)) (iu (iu ai 83 (upd (f 0) n row)) 84 (upd (f 1) n num)) al) := by
  refine e274 ?_
  obtain ⟨p1, p2, p3, p4, p5, p6, p7, p8, p9, p10, p11, p12⟩ := hp
  have e1 : vu (vu v 1 (.int 0)) 0 (.int 0) 77 = .int d := by simp [vu, p1]
  have e2 : vu (vu v 1 (.int 0)) 0 (.int 0) 78 = .int (nI n) := by simp [vu, p2]
  obtain ⟨s1, s2, s3, s4⟩ := rowSt_0 hs
  simp only [r274_0, r274_1, r274_2, r274_5, r274_6, r274_7, r274_10, r274_14, r274_17, r274_18, r274_22 (x := 0) (Or.inl rfl), r274_22 (x := 1) (Or.inr rfl), r274_22 (b2i_or _), r274_23, r274_24, r274_25, r274_26, r274_32, r274_35, r274_39, r274_42, r274_43, r274_47 (x := 0) (Or.inl rfl), r274_47 (x := 1) (Or.inr rfl), r274_47 (b2i_or _), r274_48, r274_49, r274_52, r274_54, r274_57, r274_58, r274_63 (x := 0) (Or.inl rfl), r274_63 (x := 1) (Or.inr rfl), r274_63 (b2i_or _), r274_64, r274_65, r274_66, r274_69, r274_72, r274_73, r274_78 (x := 0) (Or.inl rfl), r274_78 (x := 1) (Or.inr rfl), r274_78 (b2i_or _), r274_79, r274_80, r274_83, r274_84, r274_87, r274_88, r274_89, r274_90, r274_93, r274_94, r274_97, r274_98, r274_99, r274_100, r274_100i, r274_101, r274_104, r274_105, r274_106, r274_109, r274_110, r274_111, r274_114, r274_115 (x := 0) (Or.inl rfl), r274_115 (x := 1) (Or.inr rfl), r274_115 (b2i_or _), mh_o h, pm_0, pm_1, pm_77, pm_78, gm_77, gm_78, gm_83, gm_84, WPo_some, List.getElem?_cons_succ, List.getElem?_cons_zero, kil_n, kil_i, kil_a, kil_u, kil_l, Option.toList_some, Option.toList_none, List.cons_append, List.nil_append, List.set_cons_succ, List.set_cons_zero, addm1, Nat.reduceAdd, List.length_cons, List.length_nil, Nat.reduceLT, mh_put h, q274_11 m_isRow, q274_29 m_isIn, q274_36 m_isNumber, b2i_eq0, e1, e2, nI_100 hn, i64_lt, i64_le, i2l_toInt, Int64.reduceToInt, pI, hm_83 h, hm_84 h, sm_83 h, sm_84 h, p6, p7, iu, nI_1, s1.1, s1.2, s2.1.1, s2.1.2, s2.2.1, s2.2.2, s3, s4, not_true_eq_false, not_false_eq_true, if_true, if_false, or_self, and_self, true_and, and_true, or_true, true_or, false_or, or_false, false_and, and_false, nI_pos (show n < 2 ^ 31 by omega), nI_clamp (show n < 2 ^ 31 by omega), Nat.reduceEqDiff]
  done
end PLC
end PLM

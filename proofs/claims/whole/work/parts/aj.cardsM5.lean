/-! The model's cards: kinds, whole numbers, leads -/
noncomputable def rdG (T : Nat → Int32) (n : Nat) (s : aPs) : Nat × aPs := if s.2.1 = 0 ∧ wdP T n s.1 100 = true then (if wdP T n (nxE T n s.1) 101 = true then (1, gon (nxE T n (nxE T n s.1))) else if wdP T n (nxE T n s.1) 102 = true then (2, gon (nxE T n (nxE T n s.1))) else (0, flt T n (nxE T n s.1) 2)) else (0, s)
section MCK
variable {E : aEnv} {c m : Nat} {ah : aHp} {ma : Nat → Nat} {v : Nat → Value} {ai : Nat → Nat → Int32} {al : Nat → Nat → Int64} {T : Nat → Int32} {n : Nat}
theorem ok_rdG {s : aPs} (h : okP n s) : okP n (rdG T n s).2 := by
  have h1 := nxE_le (T := T) h.1
  have h2 := nxE_le (T := T) h1.2
  unfold rdG
  split
  · split
    · exact ok_gon h2.2
    · split
      · exact ok_gon h2.2
      · exact ok_flt h1.2 (by decide) (by decide)
  · exact h
theorem wd_1 {p k : Nat} (h : wdP T n p k = true) : nxT T n p = 1 := by
  unfold wdP at h
  rw [Bool.and_eq_true] at h
  exact of_decide_eq_true h.1
theorem G_J {s : aPs} : tkC T n 3 (rdG T n s).2 = tkC T n 3 (rdJ T n s).2 ∧ ((tkC T n 3 (rdJ T n s).2).2.1 = 0 → (rdG T n s).1 = (rdJ T n s).1) := by
  by_cases f : s.2.1 = 0
  · by_cases w : wdP T n s.1 100 = true
    · have e : rdG T n s = rdJ T n s := by
        unfold rdG rdJ rdI
        rw [if_pos (show s.2.1 = 0 ∧ wdP T n s.1 100 = true from ⟨f, w⟩), if_pos (show s.2.1 = 0 ∧ nxT T n s.1 = 1 from ⟨f, wd_1 w⟩), if_pos w]
      rw [e]
      exact ⟨rfl, fun _ => rfl⟩
    · unfold rdG rdJ
      rw [if_neg (fun z => w z.2)]
      by_cases t : nxT T n s.1 = 1
      · rw [if_pos ⟨f, t⟩]
        unfold rdI
        rw [if_neg w]
        have hr := flt_ne (T := T) (n := n) (p := s.1) (k := 2) (by decide) (by decide)
        refine ⟨?_, fun z => rfl⟩
        unfold tkC
        dsimp only
        rw [if_pos f, if_neg (by omega), if_neg hr]
      · rw [if_neg (fun z => t z.2)]
        exact ⟨rfl, fun _ => rfl⟩
  · unfold rdG rdJ
    rw [if_neg (fun z => f z.1), if_neg (fun z => f z.1)]
    exact ⟨rfl, fun _ => rfl⟩
theorem m_cardKind (h : MO E ah m ma) {s : aPs} (hc : cdM v T n s) : EV E (c + 1) 246 [.ref m] (mh E ah m ma v ai al) (some (.int (if kdN T n s.1 = 8 then -1 else nI (kdN T n s.1)))) (mh E ah m ma v ai al) := by
  refine e246 ?_
  have k := fun k => m_isWord (E := E) (c := c) (ai := ai) (al := al) h hc (k := k)
  by_cases h103 : wdP T n s.1 103 = true
  · have ek : kdN T n s.1 = 0 := by unfold kdN; simp only [h103, Bool.false_eq_true, if_true, if_false]
    rw [ek]
    simp (disch := first | assumption | omega | decide | (simp only [List.length_cons, List.length_nil, Nat.reduceAdd, Nat.reduceLT]; done) | fail) only [r246_0, r246_1, r246_3, r246_5, r246_7, r246_8, r246_15, r246_18, r246_19, q246_9 sp_103, q246_12 (k 103) h.ci, b2i_eq0, h103, WPo_some, List.getElem?_cons_succ, List.getElem?_cons_zero, kil_n, kil_i, kil_a, kil_u, kil_l, Option.toList_some, Option.toList_none, List.cons_append, List.nil_append, List.set_cons_succ, List.set_cons_zero, addm1, Nat.reduceAdd, List.length_cons, List.length_nil, Nat.reduceLT, not_true_eq_false, not_false_eq_true, if_true, if_false, or_self, and_self, true_and, and_true, or_true, true_or, false_or, or_false, false_and, and_false]
    first | exact rfl | exact ⟨rfl, trivial⟩ | done
  · simp (disch := first | assumption | omega | decide | (simp only [List.length_cons, List.length_nil, Nat.reduceAdd, Nat.reduceLT]; done) | fail) only [r246_0, r246_1, r246_3, r246_5, r246_7, r246_8, r246_15, q246_9 sp_103, q246_12 (k 103) h.ci, b2i_eq0, h103, Bool.false_eq_true, WPo_some, List.getElem?_cons_succ, List.getElem?_cons_zero, kil_n, kil_i, kil_a, kil_u, kil_l, Option.toList_some, Option.toList_none, List.cons_append, List.nil_append, List.set_cons_succ, List.set_cons_zero, addm1, Nat.reduceAdd, List.length_cons, List.length_nil, Nat.reduceLT, not_true_eq_false, not_false_eq_true, if_true, if_false, or_self, and_self, true_and, and_true, or_true, true_or, false_or, or_false, false_and, and_false]
    by_cases h104 : wdP T n s.1 104 = true
    · have ek : kdN T n s.1 = 1 := by unfold kdN; simp only [h103, h104, Bool.false_eq_true, if_true, if_false]
      rw [ek]
      simp (disch := first | assumption | omega | decide | (simp only [List.length_cons, List.length_nil, Nat.reduceAdd, Nat.reduceLT]; done) | fail) only [r246_20, r246_21, r246_23, r246_25, r246_27, r246_28, r246_35, r246_38, r246_39, q246_29 sp_104, q246_32 (k 104) h.ci, b2i_eq0, h104, WPo_some, List.getElem?_cons_succ, List.getElem?_cons_zero, kil_n, kil_i, kil_a, kil_u, kil_l, Option.toList_some, Option.toList_none, List.cons_append, List.nil_append, List.set_cons_succ, List.set_cons_zero, addm1, Nat.reduceAdd, List.length_cons, List.length_nil, Nat.reduceLT, not_true_eq_false, not_false_eq_true, if_true, if_false, or_self, and_self, true_and, and_true, or_true, true_or, false_or, or_false, false_and, and_false]
      first | exact rfl | exact ⟨rfl, trivial⟩ | done
    · simp (disch := first | assumption | omega | decide | (simp only [List.length_cons, List.length_nil, Nat.reduceAdd, Nat.reduceLT]; done) | fail) only [r246_20, r246_21, r246_23, r246_25, r246_27, r246_28, r246_35, q246_29 sp_104, q246_32 (k 104) h.ci, b2i_eq0, h104, Bool.false_eq_true, WPo_some, List.getElem?_cons_succ, List.getElem?_cons_zero, kil_n, kil_i, kil_a, kil_u, kil_l, Option.toList_some, Option.toList_none, List.cons_append, List.nil_append, List.set_cons_succ, List.set_cons_zero, addm1, Nat.reduceAdd, List.length_cons, List.length_nil, Nat.reduceLT, not_true_eq_false, not_false_eq_true, if_true, if_false, or_self, and_self, true_and, and_true, or_true, true_or, false_or, or_false, false_and, and_false]
      by_cases h105 : wdP T n s.1 105 = true
      · have ek : kdN T n s.1 = 2 := by unfold kdN; simp only [h103, h104, h105, Bool.false_eq_true, if_true, if_false]
        rw [ek]
        simp (disch := first | assumption | omega | decide | (simp only [List.length_cons, List.length_nil, Nat.reduceAdd, Nat.reduceLT]; done) | fail) only [r246_40, r246_41, r246_43, r246_45, r246_47, r246_48, r246_55, r246_58, r246_59, q246_49 sp_105, q246_52 (k 105) h.ci, b2i_eq0, h105, WPo_some, List.getElem?_cons_succ, List.getElem?_cons_zero, kil_n, kil_i, kil_a, kil_u, kil_l, Option.toList_some, Option.toList_none, List.cons_append, List.nil_append, List.set_cons_succ, List.set_cons_zero, addm1, Nat.reduceAdd, List.length_cons, List.length_nil, Nat.reduceLT, not_true_eq_false, not_false_eq_true, if_true, if_false, or_self, and_self, true_and, and_true, or_true, true_or, false_or, or_false, false_and, and_false]
        first | exact rfl | exact ⟨rfl, trivial⟩ | done
      · simp (disch := first | assumption | omega | decide | (simp only [List.length_cons, List.length_nil, Nat.reduceAdd, Nat.reduceLT]; done) | fail) only [r246_40, r246_41, r246_43, r246_45, r246_47, r246_48, r246_55, q246_49 sp_105, q246_52 (k 105) h.ci, b2i_eq0, h105, Bool.false_eq_true, WPo_some, List.getElem?_cons_succ, List.getElem?_cons_zero, kil_n, kil_i, kil_a, kil_u, kil_l, Option.toList_some, Option.toList_none, List.cons_append, List.nil_append, List.set_cons_succ, List.set_cons_zero, addm1, Nat.reduceAdd, List.length_cons, List.length_nil, Nat.reduceLT, not_true_eq_false, not_false_eq_true, if_true, if_false, or_self, and_self, true_and, and_true, or_true, true_or, false_or, or_false, false_and, and_false]
        by_cases h106 : wdP T n s.1 106 = true
        · have ek : kdN T n s.1 = 3 := by unfold kdN; simp only [h103, h104, h105, h106, Bool.false_eq_true, if_true, if_false]
          rw [ek]
          simp (disch := first | assumption | omega | decide | (simp only [List.length_cons, List.length_nil, Nat.reduceAdd, Nat.reduceLT]; done) | fail) only [r246_60, r246_61, r246_63, r246_65, r246_67, r246_68, r246_75, r246_78, r246_79, q246_69 sp_106, q246_72 (k 106) h.ci, b2i_eq0, h106, WPo_some, List.getElem?_cons_succ, List.getElem?_cons_zero, kil_n, kil_i, kil_a, kil_u, kil_l, Option.toList_some, Option.toList_none, List.cons_append, List.nil_append, List.set_cons_succ, List.set_cons_zero, addm1, Nat.reduceAdd, List.length_cons, List.length_nil, Nat.reduceLT, not_true_eq_false, not_false_eq_true, if_true, if_false, or_self, and_self, true_and, and_true, or_true, true_or, false_or, or_false, false_and, and_false]
          first | exact rfl | exact ⟨rfl, trivial⟩ | done
        · simp (disch := first | assumption | omega | decide | (simp only [List.length_cons, List.length_nil, Nat.reduceAdd, Nat.reduceLT]; done) | fail) only [r246_60, r246_61, r246_63, r246_65, r246_67, r246_68, r246_75, q246_69 sp_106, q246_72 (k 106) h.ci, b2i_eq0, h106, Bool.false_eq_true, WPo_some, List.getElem?_cons_succ, List.getElem?_cons_zero, kil_n, kil_i, kil_a, kil_u, kil_l, Option.toList_some, Option.toList_none, List.cons_append, List.nil_append, List.set_cons_succ, List.set_cons_zero, addm1, Nat.reduceAdd, List.length_cons, List.length_nil, Nat.reduceLT, not_true_eq_false, not_false_eq_true, if_true, if_false, or_self, and_self, true_and, and_true, or_true, true_or, false_or, or_false, false_and, and_false]
          by_cases h107 : wdP T n s.1 107 = true
          · have ek : kdN T n s.1 = 4 := by unfold kdN; simp only [h103, h104, h105, h106, h107, Bool.false_eq_true, if_true, if_false]
            rw [ek]
            simp (disch := first | assumption | omega | decide | (simp only [List.length_cons, List.length_nil, Nat.reduceAdd, Nat.reduceLT]; done) | fail) only [r246_80, r246_81, r246_83, r246_85, r246_87, r246_88, r246_95, r246_98, r246_99, q246_89 sp_107, q246_92 (k 107) h.ci, b2i_eq0, h107, WPo_some, List.getElem?_cons_succ, List.getElem?_cons_zero, kil_n, kil_i, kil_a, kil_u, kil_l, Option.toList_some, Option.toList_none, List.cons_append, List.nil_append, List.set_cons_succ, List.set_cons_zero, addm1, Nat.reduceAdd, List.length_cons, List.length_nil, Nat.reduceLT, not_true_eq_false, not_false_eq_true, if_true, if_false, or_self, and_self, true_and, and_true, or_true, true_or, false_or, or_false, false_and, and_false]
            first | exact rfl | exact ⟨rfl, trivial⟩ | done
          · simp (disch := first | assumption | omega | decide | (simp only [List.length_cons, List.length_nil, Nat.reduceAdd, Nat.reduceLT]; done) | fail) only [r246_80, r246_81, r246_83, r246_85, r246_87, r246_88, r246_95, q246_89 sp_107, q246_92 (k 107) h.ci, b2i_eq0, h107, Bool.false_eq_true, WPo_some, List.getElem?_cons_succ, List.getElem?_cons_zero, kil_n, kil_i, kil_a, kil_u, kil_l, Option.toList_some, Option.toList_none, List.cons_append, List.nil_append, List.set_cons_succ, List.set_cons_zero, addm1, Nat.reduceAdd, List.length_cons, List.length_nil, Nat.reduceLT, not_true_eq_false, not_false_eq_true, if_true, if_false, or_self, and_self, true_and, and_true, or_true, true_or, false_or, or_false, false_and, and_false]
            by_cases h108 : wdP T n s.1 108 = true
            · have ek : kdN T n s.1 = 5 := by unfold kdN; simp only [h103, h104, h105, h106, h107, h108, Bool.false_eq_true, if_true, if_false]
              rw [ek]
              simp (disch := first | assumption | omega | decide | (simp only [List.length_cons, List.length_nil, Nat.reduceAdd, Nat.reduceLT]; done) | fail) only [r246_100, r246_101, r246_103, r246_105, r246_107, r246_109, r246_117, r246_120, r246_121, q246_111 sp_108, q246_114 (k 108) h.ci, b2i_eq0, h108, WPo_some, List.getElem?_cons_succ, List.getElem?_cons_zero, kil_n, kil_i, kil_a, kil_u, kil_l, Option.toList_some, Option.toList_none, List.cons_append, List.nil_append, List.set_cons_succ, List.set_cons_zero, addm1, Nat.reduceAdd, List.length_cons, List.length_nil, Nat.reduceLT, not_true_eq_false, not_false_eq_true, if_true, if_false, or_self, and_self, true_and, and_true, or_true, true_or, false_or, or_false, false_and, and_false]
              first | exact rfl | exact ⟨rfl, trivial⟩ | done
            · simp (disch := first | assumption | omega | decide | (simp only [List.length_cons, List.length_nil, Nat.reduceAdd, Nat.reduceLT]; done) | fail) only [r246_100, r246_101, r246_103, r246_105, r246_107, r246_109, r246_117, q246_111 sp_108, q246_114 (k 108) h.ci, b2i_eq0, h108, Bool.false_eq_true, WPo_some, List.getElem?_cons_succ, List.getElem?_cons_zero, kil_n, kil_i, kil_a, kil_u, kil_l, Option.toList_some, Option.toList_none, List.cons_append, List.nil_append, List.set_cons_succ, List.set_cons_zero, addm1, Nat.reduceAdd, List.length_cons, List.length_nil, Nat.reduceLT, not_true_eq_false, not_false_eq_true, if_true, if_false, or_self, and_self, true_and, and_true, or_true, true_or, false_or, or_false, false_and, and_false]
              by_cases h109 : wdP T n s.1 109 = true
              · have ek : kdN T n s.1 = 6 := by unfold kdN; simp only [h103, h104, h105, h106, h107, h108, h109, Bool.false_eq_true, if_true, if_false]
                rw [ek]
                simp (disch := first | assumption | omega | decide | (simp only [List.length_cons, List.length_nil, Nat.reduceAdd, Nat.reduceLT]; done) | fail) only [r246_122, r246_123, r246_125, r246_127, r246_129, r246_131, r246_138, r246_141, r246_143, q246_132 sp_109, q246_135 (k 109) h.ci, b2i_eq0, h109, WPo_some, List.getElem?_cons_succ, List.getElem?_cons_zero, kil_n, kil_i, kil_a, kil_u, kil_l, Option.toList_some, Option.toList_none, List.cons_append, List.nil_append, List.set_cons_succ, List.set_cons_zero, addm1, Nat.reduceAdd, List.length_cons, List.length_nil, Nat.reduceLT, not_true_eq_false, not_false_eq_true, if_true, if_false, or_self, and_self, true_and, and_true, or_true, true_or, false_or, or_false, false_and, and_false]
                first | exact rfl | exact ⟨rfl, trivial⟩ | done
              · simp (disch := first | assumption | omega | decide | (simp only [List.length_cons, List.length_nil, Nat.reduceAdd, Nat.reduceLT]; done) | fail) only [r246_122, r246_123, r246_125, r246_127, r246_129, r246_131, r246_138, q246_132 sp_109, q246_135 (k 109) h.ci, b2i_eq0, h109, Bool.false_eq_true, WPo_some, List.getElem?_cons_succ, List.getElem?_cons_zero, kil_n, kil_i, kil_a, kil_u, kil_l, Option.toList_some, Option.toList_none, List.cons_append, List.nil_append, List.set_cons_succ, List.set_cons_zero, addm1, Nat.reduceAdd, List.length_cons, List.length_nil, Nat.reduceLT, not_true_eq_false, not_false_eq_true, if_true, if_false, or_self, and_self, true_and, and_true, or_true, true_or, false_or, or_false, false_and, and_false]
                by_cases h110 : wdP T n s.1 110 = true
                · have ek : kdN T n s.1 = 7 := by unfold kdN; simp only [h103, h104, h105, h106, h107, h108, h109, h110, Bool.false_eq_true, if_true, if_false]
                  rw [ek]
                  simp (disch := first | assumption | omega | decide | (simp only [List.length_cons, List.length_nil, Nat.reduceAdd, Nat.reduceLT]; done) | fail) only [r246_144, r246_145, r246_147, r246_149, r246_150, r246_151, r246_158, r246_161, r246_163, r246_166, r246_167, q246_152 sp_110, q246_155 (k 110) h.ci, b2i_eq0, h110, WPo_some, List.getElem?_cons_succ, List.getElem?_cons_zero, kil_n, kil_i, kil_a, kil_u, kil_l, Option.toList_some, Option.toList_none, List.cons_append, List.nil_append, List.set_cons_succ, List.set_cons_zero, addm1, Nat.reduceAdd, List.length_cons, List.length_nil, Nat.reduceLT, not_true_eq_false, not_false_eq_true, if_true, if_false, or_self, and_self, true_and, and_true, or_true, true_or, false_or, or_false, false_and, and_false]
                  first | exact rfl | exact ⟨rfl, trivial⟩ | done
                · have ek : kdN T n s.1 = 8 := by unfold kdN; simp only [h103, h104, h105, h106, h107, h108, h109, h110, Bool.false_eq_true, if_true, if_false]
                  rw [ek]
                  simp (disch := first | assumption | omega | decide | (simp only [List.length_cons, List.length_nil, Nat.reduceAdd, Nat.reduceLT]; done) | fail) only [r246_144, r246_145, r246_147, r246_149, r246_150, r246_151, r246_158, r246_166, r246_167, q246_152 sp_110, q246_155 (k 110) h.ci, b2i_eq0, h110, Bool.false_eq_true, WPo_some, List.getElem?_cons_succ, List.getElem?_cons_zero, kil_n, kil_i, kil_a, kil_u, kil_l, Option.toList_some, Option.toList_none, List.cons_append, List.nil_append, List.set_cons_succ, List.set_cons_zero, addm1, Nat.reduceAdd, List.length_cons, List.length_nil, Nat.reduceLT, not_true_eq_false, not_false_eq_true, if_true, if_false, or_self, and_self, true_and, and_true, or_true, true_or, false_or, or_false, false_and, and_false]
                  first | done | exact rfl | exact ⟨rfl, trivial⟩
theorem m_readWhole (h : MO E ah m ma) (hT : ai 28 = T) (hn : n ≤ 500) {s : aPs} (hs : okP n s) (hc : cdM v T n s) {i : Nat} (hi : i < 40) : ∃ v' W', EV E (c + 3) 248 [.ref m, .int (nI i)] (mh E ah m ma v ai al) none (mh E ah m ma v' ai (lu al 57 W')) ∧ cdM v' T n (rdW T n s).2 ∧ frR v v' ∧ (∀ q, q ≠ i → W' q = al 57 q) ∧ ((rdW T n s).2.2.1 = 0 → W' i = (rdW T n s).1) := by
  have ok2 := hs.2.1
  have hc0 := hc
  obtain ⟨h1, h2, h3, h4, h5, h6, h7, h8, h9, h0⟩ := hc
  by_cases hf : s.2.1 = 0
  · have eg := gon_eq hs hf
    have hc1 : cdM v T n (gon s.1) := by rw [eg]; exact hc0
    have hE := nxE_le (T := T) hs.1
    have km := m_isMinus (E := E) (c := c + 2) (ai := ai) (al := al) h hc0
    -- the number itself, from a place q
    have num : ∀ (w : Nat → Value) (q : Nat) (mi : Int32), (mi = 0 ∨ mi = 1) → q ≤ n → cdM w T n (gon q) → ∃ v' W', WP E (c + 3) 248 23 [some (.ref m), some (.int (nI i)), some (.int mi)] [] (mh E ah m ma w ai al) (fun r x => r = none ∧ x = mh E ah m ma v' ai (lu al 57 W')) ∧ cdM v' T n (tkC T n 2 (gon q)) ∧ frR w v' ∧ (∀ q, q ≠ i → W' q = al 57 q) ∧ ((tkC T n 2 (gon q)).2.1 = 0 → W' i = if mi = 0 then nxV T n q else - nxV T n q) := by
      intro w q mi hmi hq hw
      have t5 := nxT_le (T := T) (n := n) (p := q)
      have s4 := srt_le t5
      have w4 : w 35 = .int (nI (srt (nxT T n q))) := hw.2.2.2.1
      by_cases y : nxT T n q = 2
      · have w8 : w 40 = .long (nxV T n q) := hw.2.2.2.2.2.2.2.1 y
        rw [y, show srt 2 = 2 from rfl] at w4
        have e1 : tkC T n 2 (gon q) = gon (nxE T n q) := by
          exact (if_pos (c := (gon q).2.1 = 0) rfl).trans (if_pos (c := nxT T n (gon q).1 = 2) y)
        rcases hmi with rfl | rfl
        · obtain ⟨v', k, k2, k3⟩ := m_nextP (E := E) (c := c) (v := w) (ai := ai) (al := lu al 57 (vp_updL (al 57) i (nxV T n q))) h hT hn hq hw
          refine ⟨v', vp_updL (al 57) i (nxV T n q), ?_, by rw [e1]; exact k2, k3, fun x hx => vup_ne hx, fun _ => by rw [vup_at]; rfl⟩
          simp (disch := first | assumption | omega | decide | (simp only [List.length_cons, List.length_nil, Nat.reduceAdd, Nat.reduceLT]; done) | fail) only [r248_23, r248_24, r248_27, r248_28, r248_31, r248_35, r248_36, r248_37, r248_40, r248_41, r248_42, r248_45, r248_46, r248_49, r248_50, r248_53, r248_54, r248_57, r248_58, r248_62, mh_o h, gm_35, gm_57, gm_40, w4, w8, pL, hm_57 h, sm_57 h, q248_59 k h.ci, WPo_some, List.getElem?_cons_succ, List.getElem?_cons_zero, kil_n, kil_i, kil_a, kil_u, kil_l, Option.toList_some, Option.toList_none, List.cons_append, List.nil_append, List.set_cons_succ, List.set_cons_zero, addm1, Nat.reduceAdd, List.length_cons, List.length_nil, Nat.reduceLT, nI_clamp, nI_toInt, nI_leL, nI_Lle, nI_ltL, nI_Llt, nI_eqL, nI_Leq, nI_leE, nI_ltE, nI_eqE, nI_eqM, nI_add, nI_addL, nI_Ladd, nI_mulL, nI_Lmul, pk_mul, pk_sub, nI_subL, nI_Lsub, i2l_nI, Int.toNat_natCast, Nat.not_lt_zero, Nat.zero_le, ifT, ifF, not_true_eq_false, not_false_eq_true, if_true, if_false, or_self, and_self, true_and, and_true, or_true, true_or, false_or, or_false, false_and, and_false]
        · obtain ⟨v', k, k2, k3⟩ := m_nextP (E := E) (c := c) (v := w) (ai := ai) (al := lu al 57 (vp_updL (al 57) i (- nxV T n q))) h hT hn hq hw
          refine ⟨v', vp_updL (al 57) i (- nxV T n q), ?_, by rw [e1]; exact k2, k3, fun x hx => vup_ne hx, fun _ => by rw [vup_at]; rfl⟩
          simp (disch := first | assumption | omega | decide | (simp only [List.length_cons, List.length_nil, Nat.reduceAdd, Nat.reduceLT]; done) | fail) only [r248_23, r248_24, r248_27, r248_28, r248_31, r248_35, r248_36, r248_37, r248_40, r248_41, r248_42, r248_45, r248_46, r248_49, r248_50, r248_53, r248_54, r248_57, r248_58, r248_62, mh_o h, gm_35, gm_57, gm_40, w4, w8, pL, hm_57 h, sm_57 h, q248_59 k h.ci, WPo_some, List.getElem?_cons_succ, List.getElem?_cons_zero, kil_n, kil_i, kil_a, kil_u, kil_l, Option.toList_some, Option.toList_none, List.cons_append, List.nil_append, List.set_cons_succ, List.set_cons_zero, addm1, Nat.reduceAdd, List.length_cons, List.length_nil, Nat.reduceLT, nI_clamp, nI_toInt, nI_leL, nI_Lle, nI_ltL, nI_Llt, nI_eqL, nI_Leq, nI_leE, nI_ltE, nI_eqE, nI_eqM, nI_add, nI_addL, nI_Ladd, nI_mulL, nI_Lmul, pk_mul, pk_sub, nI_subL, nI_Lsub, i2l_nI, Int.toNat_natCast, Nat.not_lt_zero, Nat.zero_le, ifT, ifF, not_true_eq_false, not_false_eq_true, if_true, if_false, or_self, and_self, true_and, and_true, or_true, true_or, false_or, or_false, false_and, and_false, show ¬ (1 : Int32) = 0 by decide]
      · have e1 : tkC T n 2 (gon q) = flt T n q 2 := by
          exact (if_pos (c := (gon q).2.1 = 0) rfl).trans (if_neg (c := nxT T n (gon q).1 = 2) y)
        have e2 : ¬ srt (nxT T n q) = 2 := by rw [srt_2 t5]; exact y
        obtain ⟨v', k, k2, k3⟩ := m_wrongR (E := E) (c := c + 1) (v := w) (ai := ai) (al := al) h hw
        refine ⟨v', al 57, ?_, by rw [e1]; exact k2, k3, fun x hx => rfl, fun z => ?_⟩
        · rw [lu_self]
          simp (disch := first | assumption | omega | decide | (simp only [List.length_cons, List.length_nil, Nat.reduceAdd, Nat.reduceLT]; done) | fail) only [r248_23, r248_24, r248_27, r248_28, r248_31, r248_35, mh_o h, gm_35, w4, e2, q248_32 k h.ci, WPo_some, List.getElem?_cons_succ, List.getElem?_cons_zero, kil_n, kil_i, kil_a, kil_u, kil_l, Option.toList_some, Option.toList_none, List.cons_append, List.nil_append, List.set_cons_succ, List.set_cons_zero, addm1, Nat.reduceAdd, List.length_cons, List.length_nil, Nat.reduceLT, nI_clamp, nI_toInt, nI_leL, nI_Lle, nI_ltL, nI_Llt, nI_eqL, nI_Leq, nI_leE, nI_ltE, nI_eqE, nI_eqM, nI_add, nI_addL, nI_Ladd, nI_mulL, nI_Lmul, pk_mul, pk_sub, nI_subL, nI_Lsub, i2l_nI, Int.toNat_natCast, Nat.not_lt_zero, Nat.zero_le, ifT, ifF, not_true_eq_false, not_false_eq_true, if_true, if_false, or_self, and_self, true_and, and_true, or_true, true_or, false_or, or_false, false_and, and_false]
        · rw [e1] at z
          exact absurd z (flt_ne (by decide) (by decide))
    by_cases y : nxT T n s.1 = 4
    · have eW : rdW T n s = (- nxV T n (nxE T n s.1), tkC T n 2 (gon (nxE T n s.1))) := by
        unfold rdW rdB
        simp [hf, y]
      obtain ⟨v1, k, k2, k3⟩ := m_nextP (E := E) (c := c) (v := v) (ai := ai) (al := al) h hT hn hs.1 hc1
      obtain ⟨v', W', g1, g2, g3, g4, g5⟩ := num v1 (nxE T n s.1) 1 (Or.inr rfl) hE.2 k2
      refine ⟨v', W', e248 ?_, by rw [eW]; exact g2, frR_tr k3 g3, g4, by rw [eW]; exact g5⟩
      rw [show b2i (nxT T n s.1 = 4) = 1 from if_pos y] at km
      simp (disch := first | assumption | omega | decide | (simp only [List.length_cons, List.length_nil, Nat.reduceAdd, Nat.reduceLT]; done) | fail) only [r248_0, r248_1, r248_4, r248_7, r248_8, r248_9, r248_14, r248_15, r248_16, r248_19, mh_o h, gm_33, h2, eq_true hf, show s.2.1 ≤ 0 by omega, q248_11 km h.ci, q248_20 k h.ci, WPo_some, List.getElem?_cons_succ, List.getElem?_cons_zero, kil_n, kil_i, kil_a, kil_u, kil_l, Option.toList_some, Option.toList_none, List.cons_append, List.nil_append, List.set_cons_succ, List.set_cons_zero, addm1, Nat.reduceAdd, List.length_cons, List.length_nil, Nat.reduceLT, nI_clamp, nI_toInt, nI_leL, nI_Lle, nI_ltL, nI_Llt, nI_eqL, nI_Leq, nI_leE, nI_ltE, nI_eqE, nI_eqM, nI_add, nI_addL, nI_Ladd, nI_mulL, nI_Lmul, pk_mul, pk_sub, nI_subL, nI_Lsub, i2l_nI, Int.toNat_natCast, Nat.not_lt_zero, Nat.zero_le, ifT, ifF, not_true_eq_false, not_false_eq_true, if_true, if_false, or_self, and_self, true_and, and_true, or_true, true_or, false_or, or_false, false_and, and_false, show ¬ (1 : Int32) = 0 by decide]
      exact g1
    · have eW : rdW T n s = (nxV T n s.1, tkC T n 2 (gon s.1)) := by
        rw [eg]
        unfold rdW rdB
        simp [hf, y]
      obtain ⟨v', W', g1, g2, g3, g4, g5⟩ := num v s.1 0 (Or.inl rfl) hs.1 hc1
      refine ⟨v', W', e248 ?_, by rw [eW]; exact g2, g3, g4, by rw [eW]; exact g5⟩
      rw [show b2i (nxT T n s.1 = 4) = 0 from if_neg y] at km
      simp (disch := first | assumption | omega | decide | (simp only [List.length_cons, List.length_nil, Nat.reduceAdd, Nat.reduceLT]; done) | fail) only [r248_0, r248_1, r248_4, r248_7, r248_8, r248_9, r248_14, r248_15, r248_16, r248_19, mh_o h, gm_33, h2, eq_true hf, show s.2.1 ≤ 0 by omega, q248_11 km h.ci, WPo_some, List.getElem?_cons_succ, List.getElem?_cons_zero, kil_n, kil_i, kil_a, kil_u, kil_l, Option.toList_some, Option.toList_none, List.cons_append, List.nil_append, List.set_cons_succ, List.set_cons_zero, addm1, Nat.reduceAdd, List.length_cons, List.length_nil, Nat.reduceLT, nI_clamp, nI_toInt, nI_leL, nI_Lle, nI_ltL, nI_Llt, nI_eqL, nI_Leq, nI_leE, nI_ltE, nI_eqE, nI_eqM, nI_add, nI_addL, nI_Ladd, nI_mulL, nI_Lmul, pk_mul, pk_sub, nI_subL, nI_Lsub, i2l_nI, Int.toNat_natCast, Nat.not_lt_zero, Nat.zero_le, ifT, ifF, not_true_eq_false, not_false_eq_true, if_true, if_false, or_self, and_self, true_and, and_true, or_true, true_or, false_or, or_false, false_and, and_false]
      exact g1
  · have eW : (rdW T n s).2 = s := by
      unfold rdW rdB tkC
      simp [hf]
    refine ⟨v, al 57, e248 ?_, by rw [eW]; exact hc0, frR_rf, fun _ _ => rfl, fun z => absurd (by rw [eW] at z; exact z) hf⟩
    rw [lu_self]
    simp (disch := first | assumption | omega | decide | (simp only [List.length_cons, List.length_nil, Nat.reduceAdd, Nat.reduceLT]; done) | fail) only [r248_0, r248_1, r248_4, r248_7, mh_o h, gm_33, h2, hf, show ¬ s.2.1 ≤ 0 by omega, WPo_some, List.getElem?_cons_succ, List.getElem?_cons_zero, kil_n, kil_i, kil_a, kil_u, kil_l, Option.toList_some, Option.toList_none, List.cons_append, List.nil_append, List.set_cons_succ, List.set_cons_zero, addm1, Nat.reduceAdd, List.length_cons, List.length_nil, Nat.reduceLT, nI_clamp, nI_toInt, nI_leL, nI_Lle, nI_ltL, nI_Llt, nI_eqL, nI_Leq, nI_leE, nI_ltE, nI_eqE, nI_eqM, nI_add, nI_addL, nI_Ladd, nI_mulL, nI_Lmul, pk_mul, pk_sub, nI_subL, nI_Lsub, i2l_nI, Int.toNat_natCast, Nat.not_lt_zero, Nat.zero_le, ifT, ifF, not_true_eq_false, not_false_eq_true, if_true, if_false, or_self, and_self, true_and, and_true, or_true, true_or, false_or, or_false, false_and, and_false]
theorem m_readJump (h : MO E ah m ma) (hT : ai 28 = T) (hn : n ≤ 500) {p : Nat} (hp : p ≤ n) (hc : cdM v T n (gon p)) {i : Nat} (hi : i < 40) (hw : ai 54 i = 0) : ∃ v', EV E (c + 4) 249 [.ref m, .int (nI i)] (mh E ah m ma v ai al) none (mh E ah m ma v' (iu (iu (iu ai 55 (upd (ai 55) i (nI (nxS T n p)))) 50 (upd (ai 50) i (nI (rdN T n 1 40 p).1))) 54 (upd (ai 54) i (nI (rdG T n (rdN T n 1 40 p).2).1))) al) ∧ cdM v' T n (rdG T n (rdN T n 1 40 p).2).2 ∧ frR v v' := by
  have h36 : v 36 = .int (nI (nxS T n p)) := hc.2.2.2.2.1
  obtain ⟨v1, k1, c1, f1⟩ := m_count (E := E) (c := c) (v := v) (ai := iu ai 55 (upd (ai 55) i (nI (nxS T n p)))) (al := al) h (by rw [iu_ne (by decide)]; exact hT) hn (s := gon p) (ok_gon hp) hc (lo := 1) (hi := 40) (by decide) (by decide)
  rw [show rdM T n 1 40 (gon p) = rdN T n 1 40 p from if_pos rfl] at k1 c1
  rw [show nI 1 = (1 : Int32) from rfl, show nI 40 = (40 : Int32) from rfl] at k1
  have ok := ok_rdN (T := T) (n := n) (lo := 1) (hi := 40) hp
  generalize rdN T n 1 40 p = r at *
  obtain ⟨a, s⟩ := r
  dsimp only at k1 c1 ok ⊢
  have ok2 := ok.2.1
  have g33 : v1 33 = .int (nI s.2.1) := c1.2.1
  have e55 : iu (iu ai 55 (upd (ai 55) i (nI (nxS T n p)))) 50 (upd (ai 50) i (nI a)) 54 = ai 54 := by rw [iu_ne (by decide), iu_ne (by decide)]
  have es : ∀ x : Int32, x = 0 → iu (iu (iu ai 55 (upd (ai 55) i (nI (nxS T n p)))) 50 (upd (ai 50) i (nI a))) 54 (upd (ai 54) i x) = iu (iu ai 55 (upd (ai 55) i (nI (nxS T n p)))) 50 (upd (ai 50) i (nI a)) := fun x hx => by
    rw [show upd (ai 54) i x = ai 54 by rw [hx, ← hw]; exact upd_self, ← e55]
    exact iu_self
  have hT2 : iu (iu ai 55 (upd (ai 55) i (nI (nxS T n p)))) 50 (upd (ai 50) i (nI a)) 28 = T := by rw [iu_ne (by decide), iu_ne (by decide)]; exact hT
  unfold rdG
  by_cases f : s.2.1 = 0
  · have eg := gon_eq ok f
    have c1' : cdM v1 T n (gon s.1) := by rw [eg]; exact c1
    have hE := nxE_le (T := T) ok.1
    have kw := m_isWord (E := E) (c := c + 3) (ai := iu (iu ai 55 (upd (ai 55) i (nI (nxS T n p)))) 50 (upd (ai 50) i (nI a))) (al := al) h c1 (k := 100)
    by_cases w : wdP T n s.1 100 = true
    · rw [if_pos ⟨f, w⟩]
      obtain ⟨v2, k2, c2, f2⟩ := m_nextP (E := E) (c := c + 1) (v := v1) (ai := iu (iu ai 55 (upd (ai 55) i (nI (nxS T n p)))) 50 (upd (ai 50) i (nI a))) (al := al) h hT2 hn ok.1 c1'
      have ku := m_isWord (E := E) (c := c + 3) (ai := iu (iu ai 55 (upd (ai 55) i (nI (nxS T n p)))) 50 (upd (ai 50) i (nI a))) (al := al) h c2 (k := 101)
      have kd := m_isWord (E := E) (c := c + 3) (ai := iu (iu ai 55 (upd (ai 55) i (nI (nxS T n p)))) 50 (upd (ai 50) i (nI a))) (al := al) h c2 (k := 102)
      rw [show (gon (nxE T n s.1)).1 = nxE T n s.1 from rfl] at ku kd
      by_cases wu : wdP T n (nxE T n s.1) 101 = true
      · rw [if_pos wu]
        rw [show b2i (wdP T n (nxE T n s.1) 101 = true) = 1 from if_pos wu] at ku
        obtain ⟨v3, k3, c3, f3⟩ := m_nextP (E := E) (c := c + 1) (v := v2) (ai := iu (iu (iu ai 55 (upd (ai 55) i (nI (nxS T n p)))) 50 (upd (ai 50) i (nI a))) 54 (upd (ai 54) i 1)) (al := al) h (by rw [iu_ne (by decide)]; exact hT2) hn hE.2 c2
        refine ⟨v3, e249 ?_, c3, frR_tr f1 (frR_tr f2 f3)⟩
        rw [show nI (1, gon (nxE T n (nxE T n s.1))).1 = (1 : Int32) from rfl]
        simp (disch := first | assumption | omega | decide | (simp only [List.length_cons, List.length_nil, Nat.reduceAdd, Nat.reduceLT]; done) | fail) only [r249_0, r249_1, r249_4, r249_5, r249_6, r249_9, r249_10, r249_11, r249_14, r249_15, r249_16, r249_17, r249_22, r249_23, r249_24, r249_27, r249_30, r249_31, r249_33, r249_35, r249_36, r249_37, r249_44, r249_47, r249_48, r249_52, r249_53, r249_55, r249_57, r249_58, r249_59, r249_66, r249_67, r249_68, r249_71, r249_72, r249_74, r249_76, r249_78, r249_80, r249_87, r249_90, r249_94, r249_95, r249_96, r249_99, r249_100, r249_101, r249_104, r249_105, r249_108, r249_109, r249_110, r249_114, mh_o h, gm_55, gm_36, gm_50, gm_33, gm_54, h36, g33, pI, hm_55 h, sm_55 h, hm_50 h, sm_50 h, hm_54 h, sm_54 h, iu_ne, q249_19 k1 h.ci, q249_38 sp_100, q249_41 kw h.ci, q249_49 k2 h.ci, q249_60 sp_101, q249_63 ku h.ci, q249_111 k3 h.ci, eq_true f, show s.2.1 ≤ 0 by omega, show ¬ 0 < s.2.1 by omega, b2i_eq0, w, WPo_some, List.getElem?_cons_succ, List.getElem?_cons_zero, kil_n, kil_i, kil_a, kil_u, kil_l, Option.toList_some, Option.toList_none, List.cons_append, List.nil_append, List.set_cons_succ, List.set_cons_zero, addm1, Nat.reduceAdd, List.length_cons, List.length_nil, Nat.reduceLT, nI_clamp, nI_toInt, nI_leL, nI_Lle, nI_ltL, nI_Llt, nI_eqL, nI_Leq, nI_leE, nI_ltE, nI_eqE, nI_eqM, nI_add, nI_addL, nI_Ladd, nI_mulL, nI_Lmul, pk_mul, pk_sub, nI_subL, nI_Lsub, i2l_nI, Int.toNat_natCast, Nat.not_lt_zero, Nat.zero_le, ifT, ifF, not_true_eq_false, not_false_eq_true, if_true, if_false, or_self, and_self, true_and, and_true, or_true, true_or, false_or, or_false, false_and, and_false, show ¬ (1 : Int32) = 0 by decide]
      · rw [if_neg wu]
        rw [show b2i (wdP T n (nxE T n s.1) 101 = true) = 0 from if_neg wu] at ku
        by_cases wd : wdP T n (nxE T n s.1) 102 = true
        · rw [if_pos wd]
          obtain ⟨v3, k3, c3, f3⟩ := m_nextP (E := E) (c := c + 1) (v := v2) (ai := iu (iu (iu ai 55 (upd (ai 55) i (nI (nxS T n p)))) 50 (upd (ai 50) i (nI a))) 54 (upd (ai 54) i 2)) (al := al) h (by rw [iu_ne (by decide)]; exact hT2) hn hE.2 c2
          refine ⟨v3, e249 ?_, c3, frR_tr f1 (frR_tr f2 f3)⟩
          rw [show nI (2, gon (nxE T n (nxE T n s.1))).1 = (2 : Int32) from rfl]
          simp (disch := first | assumption | omega | decide | (simp only [List.length_cons, List.length_nil, Nat.reduceAdd, Nat.reduceLT]; done) | fail) only [r249_0, r249_1, r249_4, r249_5, r249_6, r249_9, r249_10, r249_11, r249_14, r249_15, r249_16, r249_17, r249_22, r249_23, r249_24, r249_27, r249_30, r249_31, r249_33, r249_35, r249_36, r249_37, r249_44, r249_47, r249_48, r249_52, r249_53, r249_55, r249_57, r249_58, r249_59, r249_66, r249_67, r249_68, r249_71, r249_72, r249_74, r249_76, r249_78, r249_80, r249_87, r249_90, r249_94, r249_95, r249_96, r249_99, r249_100, r249_101, r249_104, r249_105, r249_108, r249_109, r249_110, r249_114, mh_o h, gm_55, gm_36, gm_50, gm_33, gm_54, h36, g33, pI, hm_55 h, sm_55 h, hm_50 h, sm_50 h, hm_54 h, sm_54 h, iu_ne, q249_19 k1 h.ci, q249_38 sp_100, q249_41 kw h.ci, q249_49 k2 h.ci, q249_60 sp_101, q249_63 ku h.ci, q249_81 sp_102, q249_84 kd h.ci, q249_111 k3 h.ci, eq_true f, show s.2.1 ≤ 0 by omega, show ¬ 0 < s.2.1 by omega, b2i_eq0, w, wd, WPo_some, List.getElem?_cons_succ, List.getElem?_cons_zero, kil_n, kil_i, kil_a, kil_u, kil_l, Option.toList_some, Option.toList_none, List.cons_append, List.nil_append, List.set_cons_succ, List.set_cons_zero, addm1, Nat.reduceAdd, List.length_cons, List.length_nil, Nat.reduceLT, nI_clamp, nI_toInt, nI_leL, nI_Lle, nI_ltL, nI_Llt, nI_eqL, nI_Leq, nI_leE, nI_ltE, nI_eqE, nI_eqM, nI_add, nI_addL, nI_Ladd, nI_mulL, nI_Lmul, pk_mul, pk_sub, nI_subL, nI_Lsub, i2l_nI, Int.toNat_natCast, Nat.not_lt_zero, Nat.zero_le, ifT, ifF, not_true_eq_false, not_false_eq_true, if_true, if_false, or_self, and_self, true_and, and_true, or_true, true_or, false_or, or_false, false_and, and_false]
        · rw [if_neg wd]
          obtain ⟨v3, k3, c3, f3⟩ := m_wrongR (E := E) (c := c + 2) (v := v2) (ai := iu (iu ai 55 (upd (ai 55) i (nI (nxS T n p)))) 50 (upd (ai 50) i (nI a))) (al := al) h c2
          refine ⟨v3, e249 ?_, c3, frR_tr f1 (frR_tr f2 f3)⟩
          rw [es (nI ((0, flt T n (nxE T n s.1) 2) : Nat × aPs).1) rfl]
          simp (disch := first | assumption | omega | decide | (simp only [List.length_cons, List.length_nil, Nat.reduceAdd, Nat.reduceLT]; done) | fail) only [r249_0, r249_1, r249_4, r249_5, r249_6, r249_9, r249_10, r249_11, r249_14, r249_15, r249_16, r249_17, r249_22, r249_23, r249_24, r249_27, r249_30, r249_31, r249_33, r249_35, r249_36, r249_37, r249_44, r249_47, r249_48, r249_52, r249_53, r249_55, r249_57, r249_58, r249_59, r249_66, r249_67, r249_68, r249_71, r249_72, r249_74, r249_76, r249_78, r249_80, r249_87, r249_90, r249_94, r249_95, r249_96, r249_99, r249_100, r249_101, r249_104, r249_105, r249_108, r249_109, r249_110, r249_114, mh_o h, gm_55, gm_36, gm_50, gm_33, h36, g33, pI, hm_55 h, sm_55 h, hm_50 h, sm_50 h, iu_ne, q249_19 k1 h.ci, q249_38 sp_100, q249_41 kw h.ci, q249_49 k2 h.ci, q249_60 sp_101, q249_63 ku h.ci, q249_81 sp_102, q249_84 kd h.ci, q249_91 k3 h.ci, eq_true f, show s.2.1 ≤ 0 by omega, show ¬ 0 < s.2.1 by omega, b2i_eq0, w, wd, Bool.false_eq_true, WPo_some, List.getElem?_cons_succ, List.getElem?_cons_zero, kil_n, kil_i, kil_a, kil_u, kil_l, Option.toList_some, Option.toList_none, List.cons_append, List.nil_append, List.set_cons_succ, List.set_cons_zero, addm1, Nat.reduceAdd, List.length_cons, List.length_nil, Nat.reduceLT, nI_clamp, nI_toInt, nI_leL, nI_Lle, nI_ltL, nI_Llt, nI_eqL, nI_Leq, nI_leE, nI_ltE, nI_eqE, nI_eqM, nI_add, nI_addL, nI_Ladd, nI_mulL, nI_Lmul, pk_mul, pk_sub, nI_subL, nI_Lsub, i2l_nI, Int.toNat_natCast, Nat.not_lt_zero, Nat.zero_le, ifT, ifF, not_true_eq_false, not_false_eq_true, if_true, if_false, or_self, and_self, true_and, and_true, or_true, true_or, false_or, or_false, false_and, and_false]
    · rw [if_neg (fun z => w z.2)]
      refine ⟨v1, e249 ?_, c1, f1⟩
      rw [es (nI ((0, s) : Nat × aPs).1) rfl]
      simp (disch := first | assumption | omega | decide | (simp only [List.length_cons, List.length_nil, Nat.reduceAdd, Nat.reduceLT]; done) | fail) only [r249_0, r249_1, r249_4, r249_5, r249_6, r249_9, r249_10, r249_11, r249_14, r249_15, r249_16, r249_17, r249_22, r249_23, r249_24, r249_27, r249_30, r249_31, r249_33, r249_35, r249_36, r249_37, r249_44, r249_47, r249_48, r249_52, r249_53, r249_55, r249_57, r249_58, r249_59, r249_66, r249_67, r249_68, r249_71, r249_72, r249_74, r249_76, r249_78, r249_80, r249_87, r249_90, r249_94, r249_95, r249_96, r249_99, r249_100, r249_101, r249_104, r249_105, r249_108, r249_109, r249_110, r249_114, mh_o h, gm_55, gm_36, gm_50, gm_33, h36, g33, pI, hm_55 h, sm_55 h, hm_50 h, sm_50 h, iu_ne, q249_19 k1 h.ci, q249_38 sp_100, q249_41 kw h.ci, eq_true f, show ¬ 0 < s.2.1 by omega, b2i_eq0, w, Bool.false_eq_true, WPo_some, List.getElem?_cons_succ, List.getElem?_cons_zero, kil_n, kil_i, kil_a, kil_u, kil_l, Option.toList_some, Option.toList_none, List.cons_append, List.nil_append, List.set_cons_succ, List.set_cons_zero, addm1, Nat.reduceAdd, List.length_cons, List.length_nil, Nat.reduceLT, nI_clamp, nI_toInt, nI_leL, nI_Lle, nI_ltL, nI_Llt, nI_eqL, nI_Leq, nI_leE, nI_ltE, nI_eqE, nI_eqM, nI_add, nI_addL, nI_Ladd, nI_mulL, nI_Lmul, pk_mul, pk_sub, nI_subL, nI_Lsub, i2l_nI, Int.toNat_natCast, Nat.not_lt_zero, Nat.zero_le, ifT, ifF, not_true_eq_false, not_false_eq_true, if_true, if_false, or_self, and_self, true_and, and_true, or_true, true_or, false_or, or_false, false_and, and_false]
  · rw [if_neg (fun z => f z.1)]
    refine ⟨v1, e249 ?_, c1, f1⟩
    rw [es (nI ((0, s) : Nat × aPs).1) rfl]
    simp (disch := first | assumption | omega | decide | (simp only [List.length_cons, List.length_nil, Nat.reduceAdd, Nat.reduceLT]; done) | fail) only [r249_0, r249_1, r249_4, r249_5, r249_6, r249_9, r249_10, r249_11, r249_14, r249_15, r249_16, r249_17, r249_22, r249_23, r249_24, r249_27, r249_30, r249_31, r249_33, r249_35, r249_36, r249_37, r249_44, r249_47, r249_48, r249_52, r249_53, r249_55, r249_57, r249_58, r249_59, r249_66, r249_67, r249_68, r249_71, r249_72, r249_74, r249_76, r249_78, r249_80, r249_87, r249_90, r249_94, r249_95, r249_96, r249_99, r249_100, r249_101, r249_104, r249_105, r249_108, r249_109, r249_110, r249_114, mh_o h, gm_55, gm_36, gm_50, gm_33, h36, g33, pI, hm_55 h, sm_55 h, hm_50 h, sm_50 h, iu_ne, q249_19 k1 h.ci, show 0 < s.2.1 by omega, WPo_some, List.getElem?_cons_succ, List.getElem?_cons_zero, kil_n, kil_i, kil_a, kil_u, kil_l, Option.toList_some, Option.toList_none, List.cons_append, List.nil_append, List.set_cons_succ, List.set_cons_zero, addm1, Nat.reduceAdd, List.length_cons, List.length_nil, Nat.reduceLT, nI_clamp, nI_toInt, nI_leL, nI_Lle, nI_ltL, nI_Llt, nI_eqL, nI_Leq, nI_leE, nI_ltE, nI_eqE, nI_eqM, nI_add, nI_addL, nI_Ladd, nI_mulL, nI_Lmul, pk_mul, pk_sub, nI_subL, nI_Lsub, i2l_nI, Int.toNat_natCast, Nat.not_lt_zero, Nat.zero_le, ifT, ifF, not_true_eq_false, not_false_eq_true, if_true, if_false, or_self, and_self, true_and, and_true, or_true, true_or, false_or, or_false, false_and, and_false]
end MCK

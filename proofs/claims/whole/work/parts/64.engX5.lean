/-! Engines of the class: number, mishap, mend, turn -/
section ENC5
variable {E : aEnv} {c : Nat} {ah : aHp} {A : Nat → Nat} {S : Nat → aE} {tx sp : Nat} {hT tL st : Int32} {en : Nat} {ax wh : Nat → Nat} {rx : Nat → Nat → Nat} {fg : Nat → Nat → Nat → Nat} {tu ms : Nat → Nat} {mq : Nat → Nat → Nat → Nat}
noncomputable def nuSt (en : Nat) (ax : Nat → Nat) (e x : Int32) : Int32 := if (0 ≤ e.toInt ∧ e.toInt < en) ∧ 0 ≤ x.toInt ∧ x.toInt < ax e.toInt.toNat then 0 else 2
theorem x_number (hN : XN E ah A en) (hX : S 0 = xO A tx sp hT (nI en) tL st) (h : enS A S en ax wh rx fg tu ms mq) {e x : Int32} : EV E (c + 3) 153 [.ref (A 0), .int e, .int x] (oh E ah A S) (some (.long (if nuSt en ax e x = 0 then lN (nmb (rx e.toInt.toNat) (fg e.toInt.toNat x.toInt.toNat) (wh e.toInt.toNat)) else -1))) (oh E ah A (su S 0 (xO A tx sp hT (nI en) tL (nuSt en ax e x)))) := by
  refine e153 ?_
  have hO := hN.O
  have hc := hO.c0 hX
  have h4 := h.1
  by_cases h1 : 0 ≤ e.toInt ∧ e.toInt < en
  · obtain ⟨i, hi, rfl⟩ := i32_nat (n := en) h1.1 h1.2
    obtain ⟨t1, ei, el, ⟨g0, g1, g2, g3, g4, g5⟩, hq⟩ := h.2.2 i hi
    obtain ⟨t2, ei2, el2, ⟨g0', g1', g2', g3', g4', g5'⟩, hq2⟩ := (h.x (e := xO A tx sp hT (nI en) tL 0)).2.2 i hi
    have hB := hN.B hi
    have hX' := hX
    have e0 : nuSt en ax (nI i) x = if 0 ≤ x.toInt ∧ x.toInt < ax i then 0 else 2 := by
      unfold nuSt
      simp only [nI_toInt (show i < 2 ^ 31 by omega), Int.toNat_natCast, show (0 : Int) ≤ (i : Int) ∧ (i : Int) < (en : Int) by omega, true_and]
    rw [e0]
    unfold xO at hX' hq2 ⊢
    by_cases h2 : 0 ≤ x.toInt ∧ x.toInt < ax i
    · obtain ⟨j, hj, rfl⟩ := i32_nat h2.1 h2.2
      have h2' := h2
      rw [nI_toInt (by omega)] at h2'
      simp (disch := first | assumption | omega | decide | (simp only [List.length_cons, List.length_nil, Nat.reduceAdd, Nat.reduceLT]; done)) only [r153_0, r153_1, r153_5, r153_5n, r153_6, r153_7, r153_7n, r153_8, r153_8n, r153_11, r153_11n, r153_12, r153_16, r153_19, r153_20, r153_23, r153_24, r153_27, r153_28, r153_31, r153_34, r153_34n, r153_35, r153_39, r153_42, r153_45, q153_2 (c_engineAt hN hX h hi) hc, oGF_is, WPo_some, List.getElem?_cons_succ, List.getElem?_cons_zero, kil_n, kil_i, kil_a, kil_u, kil_l, Option.toList_some, Option.toList_none, List.cons_append, List.nil_append, List.set_cons_succ, List.set_cons_zero, addm1, Nat.reduceAdd, List.length_cons, List.length_nil, Nat.reduceLT, q153_13 (p_hasAxis (eSt_id hq) hB g0.2.1) (p_ci (eSt_id hq) hB), h2, h2', not_true_eq_false, not_false_eq_true, if_true, if_false, or_self, and_self, true_and, and_true, or_true, true_or, false_or, or_false, false_and, and_false, hx_0 hO, hX', pf_10150, sx_0 hO, su_at, b2i_eq0, q153_36 (p_numberOn (eSt_id hq2) hB g0.2.1 g0.2.2.2 hj (rx := rx i) (f := fg i j) g2' (fun w hw => ⟨(g3' j w hj hw).1, Nat.lt_of_lt_of_le (g3' j w hj hw).2 (g1' w hw).2.2⟩)) (p_ci (eSt_id hq2) hB), nI_toInt, Int.toNat_natCast]
    · simp (disch := first | assumption | omega | decide | (simp only [List.length_cons, List.length_nil, Nat.reduceAdd, Nat.reduceLT]; done)) only [r153_0, r153_1, r153_5, r153_5n, r153_6, r153_7, r153_7n, r153_8, r153_8n, r153_11, r153_11n, r153_12, r153_16, r153_19, r153_20, r153_23, r153_24, r153_27, r153_28, r153_31, r153_34, r153_34n, r153_35, r153_39, r153_42, r153_45, q153_2 (c_engineAt hN hX h hi) hc, oGF_is, WPo_some, List.getElem?_cons_succ, List.getElem?_cons_zero, kil_n, kil_i, kil_a, kil_u, kil_l, Option.toList_some, Option.toList_none, List.cons_append, List.nil_append, List.set_cons_succ, List.set_cons_zero, addm1, Nat.reduceAdd, List.length_cons, List.length_nil, Nat.reduceLT, q153_13 (p_hasAxis (eSt_id hq) hB g0.2.1) (p_ci (eSt_id hq) hB), h2, not_true_eq_false, not_false_eq_true, if_true, if_false, or_self, and_self, true_and, and_true, or_true, true_or, false_or, or_false, false_and, and_false, hx_0 hO, hX', pf_10150, sx_0 hO, su_at, b2i_eq0, show ¬ (2 : Int32) = 0 by decide]
  · have hX' := hX
    have e0 : nuSt en ax e x = 2 := if_neg (fun z => h1 z.1)
    rw [e0]
    unfold xO at hX' ⊢
    simp (disch := first | assumption | omega | decide | (simp only [List.length_cons, List.length_nil, Nat.reduceAdd, Nat.reduceLT]; done)) only [r153_0, r153_1, r153_5, r153_5n, r153_6, r153_7, r153_7n, r153_8, r153_8n, r153_11, r153_11n, r153_12, r153_16, r153_19, r153_20, r153_23, r153_24, r153_27, r153_28, r153_31, r153_34, r153_34n, r153_35, r153_39, r153_42, r153_45, q153_2 (c_engineAt_no hN hX h4 h1) hc, oGF_is, WPo_some, List.getElem?_cons_succ, List.getElem?_cons_zero, kil_n, kil_i, kil_a, kil_u, kil_l, Option.toList_some, Option.toList_none, List.cons_append, List.nil_append, List.set_cons_succ, List.set_cons_zero, addm1, Nat.reduceAdd, List.length_cons, List.length_nil, Nat.reduceLT, not_true_eq_false, not_false_eq_true, if_true, if_false, or_self, and_self, true_and, and_true, or_true, true_or, false_or, or_false, false_and, and_false, hx_0 hO, hX', pf_10150, sx_0 hO, su_at, show ¬ (2 : Int32) = 0 by decide]
noncomputable def mpSt (en : Nat) (ax wh ms : Nat → Nat) (e t x w k : Int32) : Int32 := if 0 ≤ e.toInt ∧ e.toInt < en then miSt (ax e.toInt.toNat) (wh e.toInt.toNat) (ms e.toInt.toNat) t x w k else 2
theorem mpSt_i {i : Nat} (hi : i < en) (h4 : en ≤ 4) {t x w k : Int32} : mpSt en ax wh ms (nI i) t x w k = miSt (ax i) (wh i) (ms i) t x w k := by
  unfold mpSt
  simp only [nI_toInt (show i < 2 ^ 31 by omega), Int.toNat_natCast, show (0 : Int) ≤ (i : Int) ∧ (i : Int) < (en : Int) by omega, true_and, if_true, and_true]
theorem x_mishap_no (hN : XN E ah A en) (hX : S 0 = xO A tx sp hT (nI en) tL st) (h : enS A S en ax wh rx fg tu ms mq) {e t x w k : Int32} (hs : ¬ mpSt en ax wh ms e t x w k = 0) : EV E (c + 3) 155 [.ref (A 0), .int e, .int t, .int x, .int w, .int k] (oh E ah A S) (some (.int 0)) (oh E ah A (su S 0 (xO A tx sp hT (nI en) tL (mpSt en ax wh ms e t x w k)))) := by
  refine e155 ?_
  have hO := hN.O
  have hc := hO.c0 hX
  have h4 := h.1
  by_cases h1 : 0 ≤ e.toInt ∧ e.toInt < en
  · obtain ⟨i, hi, rfl⟩ := i32_nat (n := en) h1.1 h1.2
    obtain ⟨t1, ei, el, ⟨g0, g1, g2, g3, g4, g5⟩, hq⟩ := h.2.2 i hi
    have hB := hN.B hi
    have hX' := hX
    rw [mpSt_i hi h4] at hs ⊢
    unfold xO at hX' ⊢
    simp (disch := first | assumption | omega | decide | (simp only [List.length_cons, List.length_nil, Nat.reduceAdd, Nat.reduceLT]; done)) only [r155_0, r155_1, r155_5, r155_5n, r155_7, r155_8, r155_8n, r155_10, r155_11, r155_12, r155_14, r155_19, r155_22, r155_23, r155_26, r155_29, r155_29n, r155_31, r155_32, r155_33, r155_35, r155_40, r155_41, r155_44, r155_47, r155_48, r155_51, r155_52 (x := 0) (Or.inl rfl), r155_52 (x := 1) (Or.inr rfl), r155_52 (b2i_or _), q155_2 (c_engineAt hN hX h hi) hc, oGF_is, WPo_some, List.getElem?_cons_succ, List.getElem?_cons_zero, kil_n, kil_i, kil_a, kil_u, kil_l, Option.toList_some, Option.toList_none, List.cons_append, List.nil_append, List.set_cons_succ, List.set_cons_zero, addm1, Nat.reduceAdd, List.length_cons, List.length_nil, Nat.reduceLT, q155_16 (p_mishapSt (eSt_id hq) hB g0.2.1 g0.1 g0.2.2.2 g5.1), hs, not_true_eq_false, not_false_eq_true, if_true, if_false, or_self, and_self, true_and, and_true, or_true, true_or, false_or, or_false, false_and, and_false, hx_0 hO, hX', pf_10150, sx_0 hO, su_at]
  · have hX' := hX
    have e0 : mpSt en ax wh ms e t x w k = 2 := if_neg h1
    rw [e0]
    unfold xO at hX' ⊢
    simp (disch := first | assumption | omega | decide | (simp only [List.length_cons, List.length_nil, Nat.reduceAdd, Nat.reduceLT]; done)) only [r155_0, r155_1, r155_5, r155_5n, r155_7, r155_8, r155_8n, r155_10, r155_11, r155_12, r155_14, r155_19, r155_22, r155_23, r155_26, r155_29, r155_29n, r155_31, r155_32, r155_33, r155_35, r155_40, r155_41, r155_44, r155_47, r155_48, r155_51, r155_52 (x := 0) (Or.inl rfl), r155_52 (x := 1) (Or.inr rfl), r155_52 (b2i_or _), q155_2 (c_engineAt_no hN hX h4 h1) hc, oGF_is, WPo_some, List.getElem?_cons_succ, List.getElem?_cons_zero, kil_n, kil_i, kil_a, kil_u, kil_l, Option.toList_some, Option.toList_none, List.cons_append, List.nil_append, List.set_cons_succ, List.set_cons_zero, addm1, Nat.reduceAdd, List.length_cons, List.length_nil, Nat.reduceLT, q155_16n0 c_mishapSt_no, not_true_eq_false, not_false_eq_true, if_true, if_false, or_self, and_self, true_and, and_true, or_true, true_or, false_or, or_false, false_and, and_false, hx_0 hO, hX', pf_10150, sx_0 hO, su_at, show ¬ (2 : Int32) = 0 by decide]
theorem miSt_0 {axx whh n : Nat} {t x w k : Int32} (ha : axx ≤ 7) (h : miSt axx whh n t x w k = 0) : ∃ t' x' w' k', t = nI t' ∧ x = nI x' ∧ w = nI w' ∧ k = nI k' ∧ 1 ≤ t' ∧ t' ≤ 1000 ∧ x' + 1 < axx ∧ w' < whh ∧ k' ≤ 2 ∧ ¬ n = 20 := by
  unfold miSt at h
  repeat' split at h
  all_goals first | (exfalso; revert h; decide) | skip
  rename_i h1 h2 h3
  obtain ⟨t', q1, rfl⟩ := i32_nat (x := t) (n := 1001) (by omega) (by omega)
  obtain ⟨x', q2, rfl⟩ := i32_nat (x := x) (n := axx) (by omega) (by omega)
  obtain ⟨w', q3, rfl⟩ := i32_nat (x := w) (n := whh) (by omega) (by omega)
  obtain ⟨k', q4, rfl⟩ := i32_nat (x := k) (n := 3) (by omega) (by omega)
  have r2 := nI_toInt (show t' < 2 ^ 31 by omega)
  have r3 := nI_toInt (show x' < 2 ^ 31 by omega)
  exact ⟨t', x', w', k', rfl, rfl, rfl, rfl, by omega, by omega, by omega, q3, by omega, h3⟩
noncomputable def mqA (mq : Nat → Nat → Nat) (n t x w k : Nat) : Nat → Nat → Nat := fun q i => if i = n then (if q = 0 then t else if q = 1 then x else if q = 2 then w else k) else mq q i
theorem egR_note {n : Nat} {axx whh : Nat} {r : Nat → Nat} {fg : Nat → Nat → Nat} {mq : Nat → Nat → Nat} {ei : Nat → Nat → Int32} {el : Nat → Nat → Int64} {t x w k : Nat} (hg : egR axx whh r fg mq n ei el) (hn : n < 20) (ht : t ≤ 1000) (hx : x + 1 < axx) (hw : w < whh) (hk : k ≤ 2) : egR axx whh r fg (mqA mq n t x w k) (n + 1) (iu (iu (iu (iu ei 2 (upd (ei 2) n (nI t))) 3 (upd (ei 3) n (nI x))) 4 (upd (ei 4) n (nI w))) 5 (upd (ei 5) n (nI k))) el := by
  obtain ⟨g0, g1, g2, g3, g4, g5, g6⟩ := hg
  refine ⟨g0, ?_, g2, ?_, ?_, by omega, ?_⟩
  · intro w hw
    simp only [iu, Nat.reduceEqDiff, if_false]
    exact g1 w hw
  · intro x w hx hw
    simp only [iu, Nat.reduceEqDiff, if_false]
    exact g3 x w hx hw
  · intro x w hx hw
    simp only [iu, Nat.reduceEqDiff, if_false]
    exact g4 x w hx hw
  · intro i hi
    simp only [iu, Nat.reduceEqDiff, if_false, if_true, upd, mqA]
    by_cases z : i = n
    · simp only [z, if_true, Nat.reduceEqDiff, if_false, and_self, true_and]
      exact ⟨ht, hx, hw, hk⟩
    · simp only [z, if_false]
      exact g6 i (by omega)
theorem x_mishap_ok (hN : XN E ah A en) (hX : S 0 = xO A tx sp hT (nI en) tL st) (h : enS A S en ax wh rx fg tu ms mq) {i t x w k : Nat} (hi : i < en) (ht : 1 ≤ t ∧ t ≤ 1000) (hx : x + 1 < ax i) (hw : w < wh i) (hk : k ≤ 2) (hn : ¬ ms i = 20) : ∃ S', EV E (c + 3) 155 [.ref (A 0), .int (nI i), .int (nI t), .int (nI x), .int (nI w), .int (nI k)] (oh E ah A S) (some (.int 1)) (oh E ah A S') ∧ S' 0 = xO A tx sp hT (nI en) tL 0 ∧ enS A S' en ax wh rx fg tu (fnu ms i (ms i + 1)) (fnu mq i (mqA (mq i) (ms i) t x w k)) ∧ ∀ q, q ≠ 0 → q < 81 → S' q = S q := by
  have hO := hN.O
  have hc := hO.c0 hX
  have h4 := h.1
  obtain ⟨t1, ei, el, ⟨g0, g1, g2, g3, g4, g5⟩, hq⟩ := h.2.2 i hi
  have hx2 := h.x (e := xO A tx sp hT (nI en) tL 0)
  obtain ⟨t2, ei2, el2, hg2, hq2⟩ := hx2.2.2 i hi
  have hB := hN.B hi
  have n20 : ms i < 20 := Nat.lt_of_le_of_ne g5.1 hn
  have u1 := hx2.up hi t2 (egR_note hg2 n20 ht.2 hx hw hk)
  rw [fnu_self, fnu_self] at u1
  have s0 : miSt (ax i) (wh i) (ms i) (nI t) (nI x) (nI w) (nI k) = 0 := by
    have := g0.2.1
    have := g0.2.2.2
    unfold miSt
    rw [nI_toInt (by omega), nI_toInt (by omega), nI_toInt (by omega), nI_toInt (by omega), if_neg (by omega), if_neg (by omega), if_neg hn]
  refine ⟨_, e155 ?_, ?_, u1, ?_⟩
  · have hX' := hX
    unfold xO at hX' hq2 ⊢
    simp (disch := first | assumption | omega | decide | (simp only [List.length_cons, List.length_nil, Nat.reduceAdd, Nat.reduceLT]; done)) only [r155_0, r155_1, r155_5, r155_5n, r155_7, r155_8, r155_8n, r155_10, r155_11, r155_12, r155_14, r155_19, r155_22, r155_23, r155_26, r155_29, r155_29n, r155_31, r155_32, r155_33, r155_35, r155_40, r155_41, r155_44, r155_47, r155_48, r155_51, r155_52 (x := 0) (Or.inl rfl), r155_52 (x := 1) (Or.inr rfl), r155_52 (b2i_or _), q155_2 (c_engineAt hN hX h hi) hc, oGF_is, WPo_some, List.getElem?_cons_succ, List.getElem?_cons_zero, kil_n, kil_i, kil_a, kil_u, kil_l, Option.toList_some, Option.toList_none, List.cons_append, List.nil_append, List.set_cons_succ, List.set_cons_zero, addm1, Nat.reduceAdd, List.length_cons, List.length_nil, Nat.reduceLT, q155_16 (p_mishapSt (eSt_id hq) hB g0.2.1 g0.1 g0.2.2.2 g5.1), s0, not_true_eq_false, not_false_eq_true, if_true, if_false, or_self, and_self, true_and, and_true, or_true, true_or, false_or, or_false, false_and, and_false, hx_0 hO, hX', pf_10150, sx_0 hO, su_at, q155_37 (p_note (eSt_id hq2) hB g0.2.1 g0.2.2.2 n20 (show x < ax i by omega) hw) (p_ci (eSt_id hq2) hB), eSt_o]
  · rw [eSt_o (by omega), su_at]
  · intro q h1 h2
    rw [eSt_o (by omega), su_ne h1]
noncomputable def mdSt (en : Nat) (e : Int32) : Int32 := if 0 ≤ e.toInt ∧ e.toInt < en then 0 else 2
theorem x_mend_no (hN : XN E ah A en) (hX : S 0 = xO A tx sp hT (nI en) tL st) (h : enS A S en ax wh rx fg tu ms mq) {e : Int32} (h1 : ¬ (0 ≤ e.toInt ∧ e.toInt < en)) : EV E (c + 3) 156 [.ref (A 0), .int e] (oh E ah A S) (some (.int 0)) (oh E ah A (su S 0 (xO A tx sp hT (nI en) tL 2))) := by
  refine e156 ?_
  have hO := hN.O
  have hc := hO.c0 hX
  have h4 := h.1
  have hX' := hX
  unfold xO at hX' ⊢
  simp (disch := first | assumption | omega | decide | (simp only [List.length_cons, List.length_nil, Nat.reduceAdd, Nat.reduceLT]; done)) only [r156_0, r156_1, r156_5, r156_5n, r156_6, r156_7, r156_7n, r156_8, r156_8n, r156_11, r156_12, r156_15, r156_16, r156_19, r156_20, r156_23, r156_26, r156_26n, r156_30, r156_31, r156_34, r156_37, r156_38, r156_41, r156_42 (x := 0) (Or.inl rfl), r156_42 (x := 1) (Or.inr rfl), r156_42 (b2i_or _), q156_2 (c_engineAt_no hN hX h4 h1) hc, oGF_is, WPo_some, List.getElem?_cons_succ, List.getElem?_cons_zero, kil_n, kil_i, kil_a, kil_u, kil_l, Option.toList_some, Option.toList_none, List.cons_append, List.nil_append, List.set_cons_succ, List.set_cons_zero, addm1, Nat.reduceAdd, List.length_cons, List.length_nil, Nat.reduceLT, not_true_eq_false, not_false_eq_true, if_true, if_false, or_self, and_self, true_and, and_true, or_true, true_or, false_or, or_false, false_and, and_false, hx_0 hO, hX', pf_10150, sx_0 hO, su_at, show ¬ (2 : Int32) = 0 by decide]
theorem x_mend_ok (hN : XN E ah A en) (hX : S 0 = xO A tx sp hT (nI en) tL st) (h : enS A S en ax wh rx fg tu ms mq) {i : Nat} (hi : i < en) : ∃ S', EV E (c + 3) 156 [.ref (A 0), .int (nI i)] (oh E ah A S) (some (.int 1)) (oh E ah A S') ∧ S' 0 = xO A tx sp hT (nI en) tL 0 ∧ enS A S' en ax wh rx fg tu (fnu ms i 0) mq ∧ ∀ q, q ≠ 0 → q < 81 → S' q = S q := by
  have hO := hN.O
  have hc := hO.c0 hX
  have h4 := h.1
  have hx2 := h.x (e := xO A tx sp hT (nI en) tL 0)
  obtain ⟨t2, ei2, el2, ⟨g0, g1, g2, g3, g4, g5⟩, hq2⟩ := hx2.2.2 i hi
  have hB := hN.B hi
  have u1 := hx2.up (ms' := 0) (mq' := mq i) hi t2 (⟨g0, g1, g2, g3, g4, by omega, fun i hi => absurd hi (by omega)⟩)
  rw [fnu_self, fnu_self, fnu_self] at u1
  refine ⟨_, e156 ?_, ?_, u1, ?_⟩
  · have hX' := hX
    unfold xO at hX' hq2 ⊢
    simp (disch := first | assumption | omega | decide | (simp only [List.length_cons, List.length_nil, Nat.reduceAdd, Nat.reduceLT]; done)) only [r156_0, r156_1, r156_5, r156_5n, r156_6, r156_7, r156_7n, r156_8, r156_8n, r156_11, r156_12, r156_15, r156_16, r156_19, r156_20, r156_23, r156_26, r156_26n, r156_30, r156_31, r156_34, r156_37, r156_38, r156_41, r156_42 (x := 0) (Or.inl rfl), r156_42 (x := 1) (Or.inr rfl), r156_42 (b2i_or _), q156_2 (c_engineAt hN hX h hi) hc, oGF_is, WPo_some, List.getElem?_cons_succ, List.getElem?_cons_zero, kil_n, kil_i, kil_a, kil_u, kil_l, Option.toList_some, Option.toList_none, List.cons_append, List.nil_append, List.set_cons_succ, List.set_cons_zero, addm1, Nat.reduceAdd, List.length_cons, List.length_nil, Nat.reduceLT, not_true_eq_false, not_false_eq_true, if_true, if_false, or_self, and_self, true_and, and_true, or_true, true_or, false_or, or_false, false_and, and_false, hx_0 hO, hX', pf_10150, sx_0 hO, su_at, q156_27 (p_forget (eSt_id hq2) hB) (p_ci (eSt_id hq2) hB), eSt_o, show nI 0 = 0 from rfl]
  · rw [eSt_o (by omega), su_at]
  · intro q h1 h2
    rw [eSt_o (by omega), su_ne h1]
/-- turns in numbers -/
noncomputable def trnN (axx : Nat) (r : Nat → Nat) (mq : Nat → Nat → Nat) (n : Nat) : Nat → Nat → (Nat → Nat → Nat) → Nat → Nat → Nat
  | 0, _, fg => fg
  | k + 1, t, fg => trnN axx r mq n k (t + 1) (trn axx r mq n (t + 1) fg)
theorem l_turn {b axx whh : Nat} {al : Int64} {r : Nat → Nat} {mq : Nat → Nat → Nat} {n N : Nat} {el : Nat → Nat → Int64} (h : XB E ah A b) (hN : N ≤ 200) {a0 a1 : Option Value} : ∀ z k t ei fg, k + z = N → t + z ≤ 1000 → egR axx whh r fg mq n ei el → ∃ ei', egR axx whh r (trnN axx r mq n z t fg) mq n ei' el ∧ ∀ Q, WP E (c + 4) 157 84 [a0, a1, some (.int (nI N)), some (.ref (A b)), some (.int (nI N))] [] (oh E ah A (eSt A S b axx whh al (nI n) (nI (t + z)) ei' el)) Q → WP E (c + 4) 157 68 [a0, a1, some (.int (nI N)), some (.ref (A b)), some (.int (nI k))] [] (oh E ah A (eSt A S b axx whh al (nI n) (nI t) ei el)) Q
  | 0, k, t, ei, fg, hk, ht, hg => by
    refine ⟨ei, hg, fun Q K => ?_⟩
    rw [show k = N by omega]
    simp (disch := first | assumption | omega | decide | (simp only [List.length_cons, List.length_nil, Nat.reduceAdd, Nat.reduceLT]; done)) only [r157_68, r157_70, r157_71, oGF_is, WPo_some, List.getElem?_cons_succ, List.getElem?_cons_zero, kil_n, kil_i, kil_a, kil_u, kil_l, Option.toList_some, Option.toList_none, List.cons_append, List.nil_append, List.set_cons_succ, List.set_cons_zero, addm1, Nat.reduceAdd, List.length_cons, List.length_nil, Nat.reduceLT, nI_clamp, nI_toInt, nI_leL, nI_Lle, nI_ltL, nI_Llt, nI_eqL, nI_Leq, nI_leE, nI_ltE, nI_eqE, nI_eqM, nI_add, nI_addL, nI_Ladd, nI_mulL, nI_Lmul, pk_mul, pk_sub, nI_subL, nI_Lsub, i2l_nI, Int.toNat_natCast, Nat.not_lt_zero, Nat.zero_le, ifT, ifF, not_true_eq_false, not_false_eq_true, if_true, if_false, or_self, and_self, true_and, and_true, or_true, true_or, false_or, or_false, false_and, and_false]
    exact K
  | z + 1, k, t, ei, fg, hk, ht, hg => by
    obtain ⟨ei1, g1, e1⟩ := c_turnOnce (c := c) (S := S) (al := al) h hg (show t < 1000 by omega)
    obtain ⟨ei2, g2, e2⟩ := l_turn h hN z (k + 1) (t + 1) ei1 _ (by omega) (by omega) g1
    refine ⟨ei2, g2, fun Q K => ?_⟩
    rw [show t + (z + 1) = t + 1 + z by omega] at K
    have K2 := e2 Q K
    rw [r157_68]
    simp (disch := first | assumption | omega | decide | (simp only [List.length_cons, List.length_nil, Nat.reduceAdd, Nat.reduceLT]; done)) only [r157_70, r157_71, r157_74, r157_74n, oGF_is, WPo_some, List.getElem?_cons_succ, List.getElem?_cons_zero, kil_n, kil_i, kil_a, kil_u, kil_l, Option.toList_some, Option.toList_none, List.cons_append, List.nil_append, List.set_cons_succ, List.set_cons_zero, addm1, Nat.reduceAdd, List.length_cons, List.length_nil, Nat.reduceLT, nI_clamp, nI_toInt, nI_leL, nI_Lle, nI_ltL, nI_Llt, nI_eqL, nI_Leq, nI_leE, nI_ltE, nI_eqE, nI_eqM, nI_add, nI_addL, nI_Ladd, nI_mulL, nI_Lmul, pk_mul, pk_sub, nI_subL, nI_Lsub, i2l_nI, Int.toNat_natCast, Nat.not_lt_zero, Nat.zero_le, ifT, ifF, not_true_eq_false, not_false_eq_true, if_true, if_false, or_self, and_self, true_and, and_true, or_true, true_or, false_or, or_false, false_and, and_false, q157_75 e1 h.ci, r157_78, r157_81]
    exact K2
noncomputable def tuSt (en : Nat) (tu : Nat → Nat) (e n : Int32) : Int32 := if ¬ (0 ≤ e.toInt ∧ e.toInt < en) then 2 else if ¬ (1 ≤ n.toInt ∧ n.toInt ≤ 200) then 5 else if tu e.toInt.toNat + n.toInt ≤ 1000 then 0 else 9
theorem tuSt_i {i : Nat} (hi : i < en) (h4 : en ≤ 4) {n : Int32} : tuSt en tu (nI i) n = if ¬ (1 ≤ n.toInt ∧ n.toInt ≤ 200) then 5 else if tu i + n.toInt ≤ 1000 then 0 else 9 := by
  unfold tuSt
  simp only [nI_toInt (show i < 2 ^ 31 by omega), Int.toNat_natCast, show (0 : Int) ≤ (i : Int) ∧ (i : Int) < (en : Int) by omega, true_and, not_true_eq_false, not_false_eq_true, if_true, if_false, or_self, and_self, true_and, and_true, or_true, true_or, false_or, or_false, false_and, and_false]
theorem x_turn_no (hN : XN E ah A en) (hX : S 0 = xO A tx sp hT (nI en) tL st) (h : enS A S en ax wh rx fg tu ms mq) {e n : Int32} (hs : ¬ tuSt en tu e n = 0) : EV E (c + 4) 157 [.ref (A 0), .int e, .int n] (oh E ah A S) (some (.int (-1))) (oh E ah A (su S 0 (xO A tx sp hT (nI en) tL (tuSt en tu e n)))) := by
  refine e157 ?_
  have hO := hN.O
  have hc := hO.c0 hX
  have h4 := h.1
  by_cases h1 : 0 ≤ e.toInt ∧ e.toInt < en
  · obtain ⟨i, hi, rfl⟩ := i32_nat (n := en) h1.1 h1.2
    obtain ⟨t1, ei, el, ⟨g0, g1, g2, g3, g4, g5⟩, hq⟩ := h.2.2 i hi
    have hB := hN.B hi
    have hX' := hX
    rw [tuSt_i hi h4] at hs ⊢
    unfold xO at hX' ⊢
    by_cases h2 : 1 ≤ n.toInt ∧ n.toInt ≤ 200
    · have h3 : ¬ tu i + n.toInt ≤ 1000 := fun z => hs (by rw [if_neg (not_not_intro h2), if_pos z])
      have h5 : ¬ n < 1 := by simp only [i32_lt, i32_le, i64_lt, i64_le, i2l_toInt, Int32.reduceToInt, Int64.reduceToInt]; omega
      have h6 : n ≤ 200 := by simp only [i32_lt, i32_le, i64_lt, i64_le, i2l_toInt, Int32.reduceToInt, Int64.reduceToInt]; omega
      simp (disch := first | assumption | omega | decide | (simp only [List.length_cons, List.length_nil, Nat.reduceAdd, Nat.reduceLT]; done)) only [r157_0, r157_1, r157_5, r157_5n, r157_6, r157_6n, r157_7, r157_7n, r157_10, r157_11, r157_12, r157_15, r157_18, r157_19, r157_20, r157_23, r157_24, r157_27, r157_30, r157_31, r157_32, r157_35, r157_38, r157_39, r157_39n, r157_40, r157_44, r157_47, r157_48, r157_51, r157_53, r157_56, r157_57, r157_60, r157_63, r157_64, r157_65, r157_66, r157_68, r157_70, r157_71, r157_74, r157_74n, r157_78, r157_81, r157_84, r157_84n, r157_88, q157_2 (c_engineAt hN hX h hi) hc, oGF_is, WPo_some, List.getElem?_cons_succ, List.getElem?_cons_zero, kil_n, kil_i, kil_a, kil_u, kil_l, Option.toList_some, Option.toList_none, List.cons_append, List.nil_append, List.set_cons_succ, List.set_cons_zero, addm1, Nat.reduceAdd, List.length_cons, List.length_nil, Nat.reduceLT, h5, h6, h2, h3, q157_41 (p_canTurn (eSt_id hq) hB t1 (n := n) (by omega) (by omega)) (p_ci (eSt_id hq) hB), not_true_eq_false, not_false_eq_true, if_true, if_false, or_self, and_self, true_and, and_true, or_true, true_or, false_or, or_false, false_and, and_false, b2i_eq0, hx_0 hO, hX', pf_10150, sx_0 hO, su_at, show ¬ (9 : Int32) = 0 by decide]
    · by_cases h5 : n < 1
      · simp (disch := first | assumption | omega | decide | (simp only [List.length_cons, List.length_nil, Nat.reduceAdd, Nat.reduceLT]; done)) only [r157_0, r157_1, r157_5, r157_5n, r157_6, r157_6n, r157_7, r157_7n, r157_10, r157_11, r157_12, r157_15, r157_18, r157_19, r157_20, r157_23, r157_24, r157_27, r157_30, r157_31, r157_32, r157_35, r157_38, r157_39, r157_39n, r157_40, r157_44, r157_47, r157_48, r157_51, r157_53, r157_56, r157_57, r157_60, r157_63, r157_64, r157_65, r157_66, r157_68, r157_70, r157_71, r157_74, r157_74n, r157_78, r157_81, r157_84, r157_84n, r157_88, q157_2 (c_engineAt hN hX h hi) hc, oGF_is, WPo_some, List.getElem?_cons_succ, List.getElem?_cons_zero, kil_n, kil_i, kil_a, kil_u, kil_l, Option.toList_some, Option.toList_none, List.cons_append, List.nil_append, List.set_cons_succ, List.set_cons_zero, addm1, Nat.reduceAdd, List.length_cons, List.length_nil, Nat.reduceLT, h5, h2, not_true_eq_false, not_false_eq_true, if_true, if_false, or_self, and_self, true_and, and_true, or_true, true_or, false_or, or_false, false_and, and_false, b2i_eq0, hx_0 hO, hX', pf_10150, sx_0 hO, su_at, show ¬ (5 : Int32) = 0 by decide]
      · have h6 : ¬ n ≤ 200 := by simp only [i32_lt, i32_le, i64_lt, i64_le, i2l_toInt, Int32.reduceToInt, Int64.reduceToInt] at h5 ⊢; omega
        simp (disch := first | assumption | omega | decide | (simp only [List.length_cons, List.length_nil, Nat.reduceAdd, Nat.reduceLT]; done)) only [r157_0, r157_1, r157_5, r157_5n, r157_6, r157_6n, r157_7, r157_7n, r157_10, r157_11, r157_12, r157_15, r157_18, r157_19, r157_20, r157_23, r157_24, r157_27, r157_30, r157_31, r157_32, r157_35, r157_38, r157_39, r157_39n, r157_40, r157_44, r157_47, r157_48, r157_51, r157_53, r157_56, r157_57, r157_60, r157_63, r157_64, r157_65, r157_66, r157_68, r157_70, r157_71, r157_74, r157_74n, r157_78, r157_81, r157_84, r157_84n, r157_88, q157_2 (c_engineAt hN hX h hi) hc, oGF_is, WPo_some, List.getElem?_cons_succ, List.getElem?_cons_zero, kil_n, kil_i, kil_a, kil_u, kil_l, Option.toList_some, Option.toList_none, List.cons_append, List.nil_append, List.set_cons_succ, List.set_cons_zero, addm1, Nat.reduceAdd, List.length_cons, List.length_nil, Nat.reduceLT, h5, h6, h2, not_true_eq_false, not_false_eq_true, if_true, if_false, or_self, and_self, true_and, and_true, or_true, true_or, false_or, or_false, false_and, and_false, b2i_eq0, hx_0 hO, hX', pf_10150, sx_0 hO, su_at, show ¬ (5 : Int32) = 0 by decide]
  · have hX' := hX
    have e0 : tuSt en tu e n = 2 := if_pos h1
    rw [e0]
    unfold xO at hX' ⊢
    simp (disch := first | assumption | omega | decide | (simp only [List.length_cons, List.length_nil, Nat.reduceAdd, Nat.reduceLT]; done)) only [r157_0, r157_1, r157_5, r157_5n, r157_6, r157_6n, r157_7, r157_7n, r157_10, r157_11, r157_12, r157_15, r157_18, r157_19, r157_20, r157_23, r157_24, r157_27, r157_30, r157_31, r157_32, r157_35, r157_38, r157_39, r157_39n, r157_40, r157_44, r157_47, r157_48, r157_51, r157_53, r157_56, r157_57, r157_60, r157_63, r157_64, r157_65, r157_66, r157_68, r157_70, r157_71, r157_74, r157_74n, r157_78, r157_81, r157_84, r157_84n, r157_88, q157_2 (c_engineAt_no hN hX h4 h1) hc, oGF_is, WPo_some, List.getElem?_cons_succ, List.getElem?_cons_zero, kil_n, kil_i, kil_a, kil_u, kil_l, Option.toList_some, Option.toList_none, List.cons_append, List.nil_append, List.set_cons_succ, List.set_cons_zero, addm1, Nat.reduceAdd, List.length_cons, List.length_nil, Nat.reduceLT, not_true_eq_false, not_false_eq_true, if_true, if_false, or_self, and_self, true_and, and_true, or_true, true_or, false_or, or_false, false_and, and_false, hx_0 hO, hX', pf_10150, sx_0 hO, su_at, show ¬ (2 : Int32) = 0 by decide]
theorem x_turn_ok (hN : XN E ah A en) (hX : S 0 = xO A tx sp hT (nI en) tL st) (h : enS A S en ax wh rx fg tu ms mq) {i n : Nat} (hi : i < en) (hn : 1 ≤ n ∧ n ≤ 200) (ht : tu i + n ≤ 1000) : ∃ S', EV E (c + 4) 157 [.ref (A 0), .int (nI i), .int (nI n)] (oh E ah A S) (some (.int (nI (tu i + n)))) (oh E ah A S') ∧ S' 0 = xO A tx sp hT (nI en) tL 0 ∧ enS A S' en ax wh rx (fnu fg i (trnN (ax i) (rx i) (mq i) (ms i) n (tu i) (fg i))) (fnu tu i (tu i + n)) ms mq ∧ ∀ q, q ≠ 0 → q < 81 → S' q = S q := by
  have hO := hN.O
  have hc := hO.c0 hX
  have h4 := h.1
  obtain ⟨t1, ei, el, ⟨g0, g1, g2, g3, g4, g5⟩, hq⟩ := h.2.2 i hi
  have hx2 := h.x (e := xO A tx sp hT (nI en) tL 0)
  obtain ⟨t2, ei2, el2, hg2, hq2⟩ := hx2.2.2 i hi
  have hB := hN.B hi
  obtain ⟨ei3, g3, e3⟩ := l_turn (c := c) (S := su S 0 (xO A tx sp hT (nI en) tL 0)) (al := lN (wt (rx i) (wh i))) (a0 := some (.ref (A 0))) (a1 := some (.int (nI i))) hB hn.2 n 0 (tu i) ei2 _ (by omega) ht hg2
  have u1 := hx2.up hi ht g3
  rw [fnu_self, fnu_self] at u1
  refine ⟨_, e157 ?_, ?_, u1, ?_⟩
  · have hX' := hX
    rw [eSt_id hq2] at e3
    unfold xO at hX' hq2 e3 ⊢
    simp (disch := first | assumption | omega | decide | (simp only [List.length_cons, List.length_nil, Nat.reduceAdd, Nat.reduceLT]; done)) only [r157_0, r157_1, r157_5, r157_5n, r157_6, r157_6n, r157_7, r157_7n, r157_10, r157_11, r157_12, r157_15, r157_18, r157_19, r157_20, r157_23, r157_24, r157_27, r157_30, r157_31, r157_32, r157_35, r157_38, r157_39, r157_39n, r157_40, r157_44, r157_47, r157_48, r157_51, r157_53, r157_56, r157_57, r157_60, r157_63, r157_64, r157_65, r157_66, q157_2 (c_engineAt hN hX h hi) hc, oGF_is, WPo_some, List.getElem?_cons_succ, List.getElem?_cons_zero, kil_n, kil_i, kil_a, kil_u, kil_l, Option.toList_some, Option.toList_none, List.cons_append, List.nil_append, List.set_cons_succ, List.set_cons_zero, addm1, Nat.reduceAdd, List.length_cons, List.length_nil, Nat.reduceLT, nI_clamp, nI_toInt, nI_leL, nI_Lle, nI_ltL, nI_Llt, nI_eqL, nI_Leq, nI_leE, nI_ltE, nI_eqE, nI_eqM, nI_add, nI_addL, nI_Ladd, nI_mulL, nI_Lmul, pk_mul, pk_sub, nI_subL, nI_Lsub, i2l_nI, Int.toNat_natCast, Nat.not_lt_zero, Nat.zero_le, ifT, ifF, q157_41 (p_canTurn (eSt_id hq) hB t1 (n := nI n) (by rw [nI_toInt (by omega)]; omega) (by rw [nI_toInt (by omega)]; omega)) (p_ci (eSt_id hq) hB), not_true_eq_false, not_false_eq_true, if_true, if_false, or_self, and_self, true_and, and_true, or_true, true_or, false_or, or_false, false_and, and_false, b2i_eq0, hx_0 hO, hX', pf_10150, sx_0 hO, su_at, show (tu i : Int) + (n : Int) ≤ 1000 by omega]
    apply e3
    simp (disch := first | assumption | omega | decide | (simp only [List.length_cons, List.length_nil, Nat.reduceAdd, Nat.reduceLT]; done)) only [r157_84, r157_84n, r157_88, q157_85 (c_turnsDone hB) hB.ci, oGF_is, WPo_some, List.getElem?_cons_succ, List.getElem?_cons_zero, kil_n, kil_i, kil_a, kil_u, kil_l, Option.toList_some, Option.toList_none, List.cons_append, List.nil_append, List.set_cons_succ, List.set_cons_zero, addm1, Nat.reduceAdd, List.length_cons, List.length_nil, Nat.reduceLT]
    exact ⟨trivial, trivial⟩
  · rw [eSt_o (by omega), su_at]
  · intro q h1 h2
    rw [eSt_o (by omega), su_ne h1]
end ENC5

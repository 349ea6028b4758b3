/-! Engines of the class: figure, put, number, mishap, mend -/
section ENP
variable {E : aEnv} {c b ax wh : Nat} {ah : aHp} {A : Nat → Nat} {S : Nat → aE} {al : Int64} {ms tu : Int32} {ei : Nat → Nat → Int32} {el : Nat → Nat → Int64}
theorem p_ci (hS : eSt A S b ax wh al ms tu ei el = S) (h : XB E ah A b) : oCI (hg E (oh E ah A S) (A b)) = 2 := by
  have k := XB.ci (S := S) (ax := ax) (wh := wh) (al := al) (ms := ms) (tu := tu) (ei := ei) (el := el) h
  rw [hS] at k
  exact k
theorem p_hasAxis (hS : eSt A S b ax wh al ms tu ei el = S) (h : XB E ah A b) (ha : ax ≤ 7) {x : Int32} : EV E c 34 [.ref (A b), .int x] (oh E ah A S) (some (.int (b2i (0 ≤ x.toInt ∧ x.toInt < ax)))) (oh E ah A S) := by
  have k := c_hasAxis (c := c) (S := S) (ax := ax) (wh := wh) (al := al) (ms := ms) (tu := tu) (ei := ei) (el := el) h ha (x := x)
  rw [hS] at k
  exact k
theorem p_hasFig (hS : eSt A S b ax wh al ms tu ei el = S) (h : XB E ah A b) (ha : wh ≤ 12) {w : Nat} (hw : w < wh) {x : Int32} : EV E (c + 1) 37 [.ref (A b), .int (nI w), .int x] (oh E ah A S) (some (.int (b2i (0 ≤ x.toInt ∧ x.toInt < (ei 6 w).toInt)))) (oh E ah A S) := by
  have k := c_hasFig (c := c) (S := S) (ax := ax) (wh := wh) (al := al) (ms := ms) (tu := tu) (ei := ei) (el := el) h ha hw (x := x)
  rw [hS] at k
  exact k
theorem p_figureAt (hS : eSt A S b ax wh al ms tu ei el = S) (h : XB E ah A b) (ha : ax ≤ 7) (hw : wh ≤ 12) {x w : Nat} (h1 : x < ax) (h2 : w < wh) : EV E (c + 1) 38 [.ref (A b), .int (nI x), .int (nI w)] (oh E ah A S) (some (.int (ei 8 (x * wh + w)))) (oh E ah A S) := by
  have k := c_figureAt (c := c) (S := S) (ax := ax) (wh := wh) (al := al) (ms := ms) (tu := tu) (ei := ei) (el := el) h ha hw h1 h2
  rw [hS] at k
  exact k
theorem p_putFig (hS : eSt A S b ax wh al ms tu ei el = S) (h : XB E ah A b) (ha : ax ≤ 7) (hw : wh ≤ 12) {x w : Nat} (h1 : x < ax) (h2 : w < wh) {f : Int32} (h3 : 0 ≤ f.toInt ∧ f.toInt < (ei 6 w).toInt) : EV E (c + 2) 39 [.ref (A b), .int (nI x), .int (nI w), .int f] (oh E ah A S) none (oh E ah A (eSt A S b ax wh al ms tu (iu ei 8 (upd (ei 8) (x * wh + w) f)) el)) := by
  have k := c_putFig (c := c) (S := S) (ax := ax) (wh := wh) (al := al) (ms := ms) (tu := tu) (ei := ei) (el := el) h ha hw h1 h2 h3
  rw [hS] at k
  exact k
theorem p_numberOn (hS : eSt A S b ax wh al ms tu ei el = S) (h : XB E ah A b) (ha : ax ≤ 7) (hw : wh ≤ 12) {x : Nat} (h1 : x < ax) {rx f : Nat → Nat} (hr : ∀ w, w < wh → el 7 w = lN (wt rx w)) (hf : ∀ w, w < wh → ei 8 (x * wh + w) = nI (f w) ∧ f w < 12) : EV E (c + 1) 40 [.ref (A b), .int (nI x)] (oh E ah A S) (some (.long (lN (nmb rx f wh)))) (oh E ah A S) := by
  have k := c_numberOn (c := c) (S := S) (ax := ax) (wh := wh) (al := al) (ms := ms) (tu := tu) (ei := ei) (el := el) h ha hw h1 hr hf
  rw [hS] at k
  exact k
theorem p_wheelSt (hS : eSt A S b ax wh al ms tu ei el = S) (h : XB E ah A b) (ha : ax ≤ 7) (hw : wh ≤ 12) {x w : Int32} : EV E (c + 1) 189 [.ref (A b), .int x, .int w] (oh E ah A S) (some (.int (if (0 ≤ x.toInt ∧ x.toInt < ax) ∧ 0 ≤ w.toInt ∧ w.toInt < wh then 0 else 2))) (oh E ah A S) := by
  have k := c_wheelSt (c := c) (S := S) (ax := ax) (wh := wh) (al := al) (ms := ms) (tu := tu) (ei := ei) (el := el) h ha hw (x := x) (w := w)
  rw [hS] at k
  exact k
theorem p_mishapSt {n : Nat} (hS : eSt A S b ax wh al (nI n) tu ei el = S) (h : XB E ah A b) (ha : ax ≤ 7) (ha2 : 2 ≤ ax) (hw : wh ≤ 12) (hn : n ≤ 20) {t x w k : Int32} : EV E (c + 2) 191 [.ref (A b), .int t, .int x, .int w, .int k] (oh E ah A S) (some (.int (miSt ax wh n t x w k))) (oh E ah A S) := by
  have k := c_mishapSt (c := c) (S := S) (ax := ax) (wh := wh) (al := al) (tu := tu) (ei := ei) (el := el) h ha ha2 hw hn (t := t) (x := x) (w := w) (k := k)
  rw [hS] at k
  exact k
theorem p_note {n : Nat} (hS : eSt A S b ax wh al (nI n) tu ei el = S) (h : XB E ah A b) (ha : ax ≤ 7) (hw : wh ≤ 12) (hn : n < 20) {x w : Nat} (h1 : x < ax) (h2 : w < wh) {t k : Int32} : EV E (c + 1) 45 [.ref (A b), .int t, .int (nI x), .int (nI w), .int k] (oh E ah A S) none (oh E ah A (eSt A S b ax wh al (nI (n + 1)) tu (iu (iu (iu (iu ei 2 (upd (ei 2) n t)) 3 (upd (ei 3) n (nI x))) 4 (upd (ei 4) n (nI w))) 5 (upd (ei 5) n k)) el)) := by
  have k := c_note (c := c) (S := S) (ax := ax) (wh := wh) (al := al) (tu := tu) (ei := ei) (el := el) h ha hw hn h1 h2 (t := t) (k := k)
  rw [hS] at k
  exact k
theorem p_forget (hS : eSt A S b ax wh al ms tu ei el = S) (h : XB E ah A b) : EV E c 46 [.ref (A b)] (oh E ah A S) none (oh E ah A (eSt A S b ax wh al 0 tu ei el)) := by
  have k := c_forget (c := c) (S := S) (ax := ax) (wh := wh) (al := al) (ms := ms) (tu := tu) (ei := ei) (el := el) h
  rw [hS] at k
  exact k
theorem p_canTurn {t : Nat} (hS : eSt A S b ax wh al ms (nI t) ei el = S) (h : XB E ah A b) (ht : t ≤ 1000) {n : Int32} (hn : n.toInt ≤ 1000) (hn0 : 0 ≤ n.toInt) : EV E c 48 [.ref (A b), .int n] (oh E ah A S) (some (.int (b2i (t + n.toInt ≤ 1000)))) (oh E ah A S) := by
  have k := c_canTurn (c := c) (S := S) (ax := ax) (wh := wh) (al := al) (ms := ms) (ei := ei) (el := el) h ht hn hn0
  rw [hS] at k
  exact k
end ENP
theorem fnu_self {α : Type} {f : Nat → α} {i : Nat} : fnu f i (f i) = f := by
  funext j
  unfold fnu
  split
  · next z => rw [z]
  · rfl
section ENC4
variable {E : aEnv} {c : Nat} {ah : aHp} {A : Nat → Nat} {S : Nat → aE} {tx sp : Nat} {hT tL st : Int32} {en : Nat} {ax wh : Nat → Nat} {rx : Nat → Nat → Nat} {fg : Nat → Nat → Nat → Nat} {tu ms : Nat → Nat} {mq : Nat → Nat → Nat → Nat}
noncomputable def whSt (en : Nat) (ax wh : Nat → Nat) (e x w : Int32) : Int32 := if (0 ≤ e.toInt ∧ e.toInt < en) ∧ (0 ≤ x.toInt ∧ x.toInt < ax e.toInt.toNat) ∧ 0 ≤ w.toInt ∧ w.toInt < wh e.toInt.toNat then 0 else 2
theorem whSt_i {i : Nat} (hi : i < en) (h4 : en ≤ 4) {x w : Int32} : whSt en ax wh (nI i) x w = if (0 ≤ x.toInt ∧ x.toInt < ax i) ∧ 0 ≤ w.toInt ∧ w.toInt < wh i then 0 else 2 := by
  unfold whSt
  simp only [nI_toInt (show i < 2 ^ 31 by omega), Int.toNat_natCast, show (0 : Int) ≤ (i : Int) ∧ (i : Int) < (en : Int) by omega, true_and]
theorem whSt_no {e x w : Int32} (h : ¬ (0 ≤ e.toInt ∧ e.toInt < en)) : whSt en ax wh e x w = 2 := by
  unfold whSt
  rw [if_neg (fun z => h z.1)]
theorem whSt_0 (h4 : en ≤ 4) {e x w : Int32} (h : whSt en ax wh e x w = 0) : ∃ i j k, i < en ∧ e = nI i ∧ j < ax i ∧ x = nI j ∧ k < wh i ∧ w = nI k := by
  unfold whSt at h
  split at h
  · next z =>
    obtain ⟨⟨z1, z2⟩, ⟨z3, z4⟩, z5, z6⟩ := z
    obtain ⟨i, hi, rfl⟩ := i32_nat (n := en) z1 z2
    rw [nI_toInt (by omega), Int.toNat_natCast] at z4 z6
    obtain ⟨j, hj, rfl⟩ := i32_nat z3 z4
    obtain ⟨k, hk, rfl⟩ := i32_nat z5 z6
    exact ⟨i, j, k, hi, rfl, hj, rfl, hk, rfl⟩
  · exact absurd h (by decide)
theorem x_figure (hN : XN E ah A en) (hX : S 0 = xO A tx sp hT (nI en) tL st) (h : enS A S en ax wh rx fg tu ms mq) {e x w : Int32} : EV E (c + 3) 151 [.ref (A 0), .int e, .int x, .int w] (oh E ah A S) (some (.int (if whSt en ax wh e x w = 0 then nI (fg e.toInt.toNat x.toInt.toNat w.toInt.toNat) else -1))) (oh E ah A (su S 0 (xO A tx sp hT (nI en) tL (whSt en ax wh e x w)))) := by
  refine e151 ?_
  have hO := hN.O
  have hc := hO.c0 hX
  have h4 := h.1
  by_cases h1 : 0 ≤ e.toInt ∧ e.toInt < en
  · obtain ⟨i, hi, rfl⟩ := i32_nat (n := en) h1.1 h1.2
    obtain ⟨t1, ei, el, ⟨g0, g1, g2, g3, g4, g5⟩, hq⟩ := h.2.2 i hi
    obtain ⟨t2, ei2, el2, ⟨g0', g1', g2', g3', g4', g5'⟩, hq2⟩ := (h.x (e := xO A tx sp hT (nI en) tL 0)).2.2 i hi
    have hB := hN.B hi
    have hX' := hX
    rw [whSt_i hi h4]
    unfold xO at hX' hq2 ⊢
    by_cases h2 : (0 ≤ x.toInt ∧ x.toInt < ax i) ∧ 0 ≤ w.toInt ∧ w.toInt < wh i
    · obtain ⟨j, hj, rfl⟩ := i32_nat h2.1.1 h2.1.2
      obtain ⟨k, hk, rfl⟩ := i32_nat h2.2.1 h2.2.2
      have h2' := h2
      rw [nI_toInt (by omega), nI_toInt (by omega)] at h2'
      simp (disch := first | assumption | omega | decide | (simp only [List.length_cons, List.length_nil, Nat.reduceAdd, Nat.reduceLT]; done)) only [r151_0, r151_1, r151_5, r151_5n, r151_7, r151_8, r151_8n, r151_10, r151_11, r151_15, r151_18, r151_19, r151_22, r151_25, r151_25n, r151_27, r151_28, r151_32, r151_35, r151_36, q151_2 (c_engineAt hN hX h hi) hc, oGF_is, WPo_some, List.getElem?_cons_succ, List.getElem?_cons_zero, kil_n, kil_i, kil_a, kil_u, kil_l, Option.toList_some, Option.toList_none, List.cons_append, List.nil_append, List.set_cons_succ, List.set_cons_zero, addm1, Nat.reduceAdd, List.length_cons, List.length_nil, Nat.reduceLT, q151_12 (p_wheelSt (eSt_id hq) hB g0.2.1 g0.2.2.2), h2, h2', not_true_eq_false, not_false_eq_true, if_true, if_false, or_self, and_self, true_and, and_true, or_true, true_or, false_or, or_false, false_and, and_false, hx_0 hO, hX', pf_10150, sx_0 hO, su_at, q151_29 (p_figureAt (eSt_id hq2) hB g0.2.1 g0.2.2.2 hj hk) (p_ci (eSt_id hq2) hB), (g3' j k hj hk).1, nI_toInt, Int.toNat_natCast]
    · simp (disch := first | assumption | omega | decide | (simp only [List.length_cons, List.length_nil, Nat.reduceAdd, Nat.reduceLT]; done)) only [r151_0, r151_1, r151_5, r151_5n, r151_7, r151_8, r151_8n, r151_10, r151_11, r151_15, r151_18, r151_19, r151_22, r151_25, r151_25n, r151_27, r151_28, r151_32, r151_35, r151_36, q151_2 (c_engineAt hN hX h hi) hc, oGF_is, WPo_some, List.getElem?_cons_succ, List.getElem?_cons_zero, kil_n, kil_i, kil_a, kil_u, kil_l, Option.toList_some, Option.toList_none, List.cons_append, List.nil_append, List.set_cons_succ, List.set_cons_zero, addm1, Nat.reduceAdd, List.length_cons, List.length_nil, Nat.reduceLT, q151_12 (p_wheelSt (eSt_id hq) hB g0.2.1 g0.2.2.2), h2, not_true_eq_false, not_false_eq_true, if_true, if_false, or_self, and_self, true_and, and_true, or_true, true_or, false_or, or_false, false_and, and_false, hx_0 hO, hX', pf_10150, sx_0 hO, su_at, show ¬ (2 : Int32) = 0 by decide]
  · have hX' := hX
    rw [whSt_no h1]
    unfold xO at hX' ⊢
    simp (disch := first | assumption | omega | decide | (simp only [List.length_cons, List.length_nil, Nat.reduceAdd, Nat.reduceLT]; done)) only [r151_0, r151_1, r151_5, r151_5n, r151_7, r151_8, r151_8n, r151_10, r151_11, r151_15, r151_18, r151_19, r151_22, r151_25, r151_25n, r151_27, r151_28, r151_32, r151_35, r151_36, q151_2 (c_engineAt_no hN hX h4 h1) hc, oGF_is, WPo_some, List.getElem?_cons_succ, List.getElem?_cons_zero, kil_n, kil_i, kil_a, kil_u, kil_l, Option.toList_some, Option.toList_none, List.cons_append, List.nil_append, List.set_cons_succ, List.set_cons_zero, addm1, Nat.reduceAdd, List.length_cons, List.length_nil, Nat.reduceLT, q151_12n0 c_wheelSt_no, not_true_eq_false, not_false_eq_true, if_true, if_false, or_self, and_self, true_and, and_true, or_true, true_or, false_or, or_false, false_and, and_false, hx_0 hO, hX', pf_10150, sx_0 hO, su_at, show ¬ (2 : Int32) = 0 by decide]
noncomputable def ptSt (en : Nat) (ax wh : Nat → Nat) (rx : Nat → Nat → Nat) (e x w f : Int32) : Int32 := if ¬ whSt en ax wh e x w = 0 then 2 else if 0 ≤ f.toInt ∧ f.toInt < rx e.toInt.toNat w.toInt.toNat then 0 else 5
theorem x_put_no (hN : XN E ah A en) (hX : S 0 = xO A tx sp hT (nI en) tL st) (h : enS A S en ax wh rx fg tu ms mq) {e x w f : Int32} (hs : ¬ ptSt en ax wh rx e x w f = 0) : EV E (c + 4) 152 [.ref (A 0), .int e, .int x, .int w, .int f] (oh E ah A S) (some (.int 0)) (oh E ah A (su S 0 (xO A tx sp hT (nI en) tL (ptSt en ax wh rx e x w f)))) := by
  refine e152 ?_
  have hO := hN.O
  have hc := hO.c0 hX
  have h4 := h.1
  by_cases h1 : 0 ≤ e.toInt ∧ e.toInt < en
  · obtain ⟨i, hi, rfl⟩ := i32_nat (n := en) h1.1 h1.2
    obtain ⟨t1, ei, el, ⟨g0, g1, g2, g3, g4, g5⟩, hq⟩ := h.2.2 i hi
    obtain ⟨t2, ei2, el2, ⟨g0', g1', g2', g3', g4', g5'⟩, hq2⟩ := (h.x (e := xO A tx sp hT (nI en) tL 0)).2.2 i hi
    have hB := hN.B hi
    have hX' := hX
    unfold ptSt at hs ⊢
    rw [whSt_i hi h4] at hs ⊢
    unfold xO at hX' hq2 ⊢
    by_cases h2 : (0 ≤ x.toInt ∧ x.toInt < ax i) ∧ 0 ≤ w.toInt ∧ w.toInt < wh i
    · obtain ⟨j, hj, rfl⟩ := i32_nat h2.1.1 h2.1.2
      obtain ⟨k, hk, rfl⟩ := i32_nat h2.2.1 h2.2.2
      have h3 : ¬ (0 ≤ f.toInt ∧ f.toInt < rx i k) := fun z => by
        rw [if_neg (by rw [if_pos h2]; decide), nI_toInt (by omega), nI_toInt (by omega)] at hs
        exact hs (if_pos z)
      have r1 := g1' k hk
      have h2' := h2
      rw [nI_toInt (by omega), nI_toInt (by omega)] at h2'
      simp (disch := first | assumption | omega | decide | (simp only [List.length_cons, List.length_nil, Nat.reduceAdd, Nat.reduceLT]; done)) only [r152_0, r152_1, r152_5, r152_5n, r152_7, r152_8, r152_8n, r152_10, r152_11, r152_15, r152_18, r152_19, r152_22, r152_25, r152_25n, r152_27, r152_28, r152_33, r152_36, r152_37, r152_38, r152_41, r152_42, r152_45, r152_48, r152_48n, r152_50, r152_51, r152_52, r152_57, r152_58, r152_61, r152_64, r152_65, r152_68, r152_69 (x := 0) (Or.inl rfl), r152_69 (x := 1) (Or.inr rfl), r152_69 (b2i_or _), q152_2 (c_engineAt hN hX h hi) hc, oGF_is, WPo_some, List.getElem?_cons_succ, List.getElem?_cons_zero, kil_n, kil_i, kil_a, kil_u, kil_l, Option.toList_some, Option.toList_none, List.cons_append, List.nil_append, List.set_cons_succ, List.set_cons_zero, addm1, Nat.reduceAdd, List.length_cons, List.length_nil, Nat.reduceLT, q152_12 (p_wheelSt (eSt_id hq) hB g0.2.1 g0.2.2.2), h2, h2', h3, not_true_eq_false, not_false_eq_true, if_true, if_false, or_self, and_self, true_and, and_true, or_true, true_or, false_or, or_false, false_and, and_false, hx_0 hO, hX', pf_10150, sx_0 hO, su_at, su_su, q152_30 (p_hasFig (eSt_id hq2) hB g0.2.2.2 hk) (p_ci (eSt_id hq2) hB), r1.1, nI_toInt, Int.toNat_natCast, b2i_eq0, show ¬ (5 : Int32) = 0 by decide]
    · simp (disch := first | assumption | omega | decide | (simp only [List.length_cons, List.length_nil, Nat.reduceAdd, Nat.reduceLT]; done)) only [r152_0, r152_1, r152_5, r152_5n, r152_7, r152_8, r152_8n, r152_10, r152_11, r152_15, r152_18, r152_19, r152_22, r152_25, r152_25n, r152_27, r152_28, r152_33, r152_36, r152_37, r152_38, r152_41, r152_42, r152_45, r152_48, r152_48n, r152_50, r152_51, r152_52, r152_57, r152_58, r152_61, r152_64, r152_65, r152_68, r152_69 (x := 0) (Or.inl rfl), r152_69 (x := 1) (Or.inr rfl), r152_69 (b2i_or _), q152_2 (c_engineAt hN hX h hi) hc, oGF_is, WPo_some, List.getElem?_cons_succ, List.getElem?_cons_zero, kil_n, kil_i, kil_a, kil_u, kil_l, Option.toList_some, Option.toList_none, List.cons_append, List.nil_append, List.set_cons_succ, List.set_cons_zero, addm1, Nat.reduceAdd, List.length_cons, List.length_nil, Nat.reduceLT, q152_12 (p_wheelSt (eSt_id hq) hB g0.2.1 g0.2.2.2), h2, not_true_eq_false, not_false_eq_true, if_true, if_false, or_self, and_self, true_and, and_true, or_true, true_or, false_or, or_false, false_and, and_false, hx_0 hO, hX', pf_10150, sx_0 hO, su_at, show ¬ (2 : Int32) = 0 by decide]
  · have hX' := hX
    unfold ptSt
    rw [whSt_no h1]
    unfold xO at hX' ⊢
    simp (disch := first | assumption | omega | decide | (simp only [List.length_cons, List.length_nil, Nat.reduceAdd, Nat.reduceLT]; done)) only [r152_0, r152_1, r152_5, r152_5n, r152_7, r152_8, r152_8n, r152_10, r152_11, r152_15, r152_18, r152_19, r152_22, r152_25, r152_25n, r152_27, r152_28, r152_33, r152_36, r152_37, r152_38, r152_41, r152_42, r152_45, r152_48, r152_48n, r152_50, r152_51, r152_52, r152_57, r152_58, r152_61, r152_64, r152_65, r152_68, r152_69 (x := 0) (Or.inl rfl), r152_69 (x := 1) (Or.inr rfl), r152_69 (b2i_or _), q152_2 (c_engineAt_no hN hX h4 h1) hc, oGF_is, WPo_some, List.getElem?_cons_succ, List.getElem?_cons_zero, kil_n, kil_i, kil_a, kil_u, kil_l, Option.toList_some, Option.toList_none, List.cons_append, List.nil_append, List.set_cons_succ, List.set_cons_zero, addm1, Nat.reduceAdd, List.length_cons, List.length_nil, Nat.reduceLT, q152_12n0 c_wheelSt_no, not_true_eq_false, not_false_eq_true, if_true, if_false, or_self, and_self, true_and, and_true, or_true, true_or, false_or, or_false, false_and, and_false, hx_0 hO, hX', pf_10150, sx_0 hO, su_at, show ¬ (2 : Int32) = 0 by decide]
noncomputable def fnu2 (f : Nat → Nat → Nat) (x w y : Nat) : Nat → Nat → Nat := fun j k => if j = x ∧ k = w then y else f j k
theorem egR_put {n : Nat} {axx whh : Nat} {r : Nat → Nat} {fg : Nat → Nat → Nat} {mq : Nat → Nat → Nat} {ei : Nat → Nat → Int32} {el : Nat → Nat → Int64} {j k y : Nat} (hg : egR axx whh r fg mq n ei el) (hj : j < axx) (hk : k < whh) (hy : y < r k) : egR axx whh r (fnu2 fg j k y) mq n (iu ei 8 (upd (ei 8) (j * whh + k) (nI y))) el := by
  obtain ⟨g0, g1, g2, g3, g4, g5⟩ := hg
  refine ⟨g0, ?_, g2, ?_, ?_, mqR_iu g5 (by decide)⟩
  · intro w hw
    rw [iu_ne (by decide)]
    exact g1 w hw
  · intro x w hx hw
    rw [iu_at]
    unfold upd fnu2
    by_cases z : x = j ∧ w = k
    · rw [if_pos (by rw [z.1, z.2]), if_pos z]
      exact ⟨rfl, by rw [z.2]; exact hy⟩
    · rw [if_neg (by rw [ix_inj hw hk]; exact z), if_neg z]
      exact g3 x w hx hw
  · intro x w hx hw
    rw [iu_ne (by decide)]
    exact g4 x w hx hw
theorem x_put_ok (hN : XN E ah A en) (hX : S 0 = xO A tx sp hT (nI en) tL st) (h : enS A S en ax wh rx fg tu ms mq) {i j k y : Nat} (hi : i < en) (hj : j < ax i) (hk : k < wh i) (hy : y < rx i k) : ∃ S', EV E (c + 4) 152 [.ref (A 0), .int (nI i), .int (nI j), .int (nI k), .int (nI y)] (oh E ah A S) (some (.int 1)) (oh E ah A S') ∧ S' 0 = xO A tx sp hT (nI en) tL 0 ∧ enS A S' en ax wh rx (fnu fg i (fnu2 (fg i) j k y)) tu ms mq ∧ ∀ q, q ≠ 0 → q < 81 → S' q = S q := by
  have hO := hN.O
  have hc := hO.c0 hX
  have h4 := h.1
  obtain ⟨t1, ei, el, ⟨g0, g1, g2, g3, g4, g5⟩, hq⟩ := h.2.2 i hi
  have hx := h.x (e := xO A tx sp hT (nI en) tL 0)
  obtain ⟨t2, ei2, el2, hg2, hq2⟩ := hx.2.2 i hi
  have hB := hN.B hi
  have r1 := hg2.2.1 k hk
  have u1 := hx.up hi t2 (egR_put hg2 hj hk hy)
  rw [fnu_self, fnu_self, fnu_self] at u1
  refine ⟨_, e152 ?_, ?_, u1, ?_⟩
  · have hX' := hX
    unfold xO at hX' hq2 ⊢
    simp (disch := first | assumption | omega | decide | (simp only [List.length_cons, List.length_nil, Nat.reduceAdd, Nat.reduceLT]; done)) only [r152_0, r152_1, r152_5, r152_5n, r152_7, r152_8, r152_8n, r152_10, r152_11, r152_15, r152_18, r152_19, r152_22, r152_25, r152_25n, r152_27, r152_28, r152_33, r152_36, r152_37, r152_38, r152_41, r152_42, r152_45, r152_48, r152_48n, r152_50, r152_51, r152_52, r152_57, r152_58, r152_61, r152_64, r152_65, r152_68, r152_69 (x := 0) (Or.inl rfl), r152_69 (x := 1) (Or.inr rfl), r152_69 (b2i_or _), q152_2 (c_engineAt hN hX h hi) hc, oGF_is, WPo_some, List.getElem?_cons_succ, List.getElem?_cons_zero, kil_n, kil_i, kil_a, kil_u, kil_l, Option.toList_some, Option.toList_none, List.cons_append, List.nil_append, List.set_cons_succ, List.set_cons_zero, addm1, Nat.reduceAdd, List.length_cons, List.length_nil, Nat.reduceLT, q152_12 (p_wheelSt (eSt_id hq) hB g0.2.1 g0.2.2.2), not_true_eq_false, not_false_eq_true, if_true, if_false, or_self, and_self, true_and, and_true, or_true, true_or, false_or, or_false, false_and, and_false, hx_0 hO, hX', pf_10150, sx_0 hO, su_at, su_su, q152_30 (p_hasFig (eSt_id hq2) hB g0.2.2.2 hk) (p_ci (eSt_id hq2) hB), r1.1, nI_toInt, Int.toNat_natCast, b2i_eq0, ifT, q152_54 (p_putFig (eSt_id hq2) hB g0.2.1 g0.2.2.2 hj hk (f := nI y) (by rw [r1.1, nI_toInt (by omega), nI_toInt (by omega)]; omega)) (p_ci (eSt_id hq2) hB), eSt_o, show (0 : Int) ≤ (y : Int) ∧ (y : Int) < (rx i k : Int) by omega]
  · rw [eSt_o (by omega), su_at]
  · intro q h1 h2
    rw [eSt_o (by omega), su_ne h1]
end ENC4

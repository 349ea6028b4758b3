/-! The class: explain, because -/
noncomputable def csX (A : Nat → Nat) (S : Nat → aE) (o : Option (Nat × Nat × Nat × Nat)) : Prop := ∃ tl t a w k bf af as sh, (∀ q, q < 5 → S (3 + q) = exC A tl t a w k bf af as sh q) ∧ match o with
  | none => tl = 0
  | some (t0, a0, w0, k0) => tl = 1 ∧ t = nI t0 ∧ a = nI a0 ∧ w = nI w0 ∧ k = nI k0
section EX8
variable {E : aEnv} {c : Nat} {ah : aHp} {A : Nat → Nat} {S : Nat → aE} {tx sp : Nat} {hT tL st : Int32} {en : Nat} {ax wh : Nat → Nat} {rx : Nat → Nat → Nat} {fg : Nat → Nat → Nat → Nat} {tu ms : Nat → Nat} {mq : Nat → Nat → Nat → Nat} {sr : Nat → Int32} {mn : Nat → Nat} {tn : Nat → Nat → Int64} {o : Option (Nat × Nat × Nat × Nat)}
theorem exS_id {tl t a w k : Int32} {bf af as sh : Nat → Int64} (h : ∀ q, q < 5 → S (3 + q) = exC A tl t a w k bf af as sh q) : exS A S tl t a w k bf af as sh = S := by
  funext q
  unfold exS
  split
  · next z => rw [← h (q - 3) (by omega), show 3 + (q - 3) = q by omega]
  · rfl
theorem x_explain_no (hN : XN E ah A en) (hX : S 0 = xO A tx sp hT (nI en) tL st) (h : enS A S en ax wh rx fg tu ms mq) (ht : trS A S sr mn tn) {e tray n : Int32} (h1 : ¬ etSt en sr mn e tray n 60 = 0) : EV E (c + 6) 159 [.ref (A 0), .int e, .int tray, .int n] (oh E ah A S) (some (.int (-1))) (oh E ah A (su S 0 (xO A tx sp hT (nI en) tL (etSt en sr mn e tray n 60)))) := by
  have hO := hN.O
  have hc := hO.c0 hX
  have h4 := h.1
  refine e159 ?_
  have hX' := hX
  by_cases g1 : 0 ≤ e.toInt ∧ e.toInt < en
  · obtain ⟨i, hi, rfl⟩ := i32_nat (n := en) g1.1 g1.2
    by_cases g2 : 0 ≤ tray.toInt ∧ tray.toInt ≤ 3
    · obtain ⟨j, hj, rfl⟩ := i32_nat (n := 4) g2.1 (by omega)
      have e1 := etSt_i (sr := sr) (mn := mn) hi h4 hj (n := n) (top := 60)
      unfold xO at hX' ⊢
      simp (disch := first | assumption | omega | decide | (simp only [List.length_cons, List.length_nil, Nat.reduceAdd, Nat.reduceLT]; done) | fail) only [r159_0, r159_1, r159_5, r159_5n, r159_7, r159_8, r159_12, r159_12n, r159_14, r159_15, r159_15n, r159_17, r159_17n, r159_19, r159_20, r159_25, r159_28, r159_29, r159_32, r159_35, r159_36, r159_37, r159_38, r159_41, r159_41n, r159_43, r159_43n, r159_45, r159_49, r159_51, r159_53, r159_54, r159_57, r159_58, r159_60, r159_63, r159_65, q159_2 (c_engineAt hN hX h hi) hc, q159_9 (c_trayAt hO hX ht hj) hc, q159_22 (c_ets (ht.TR hO hj)), show (60 : Int32).toInt = 60 by decide, ← e1, h1, oGF_is, WPo_some, List.getElem?_cons_succ, List.getElem?_cons_zero, kil_n, kil_i, kil_a, kil_u, kil_l, Option.toList_some, Option.toList_none, List.cons_append, List.nil_append, List.set_cons_succ, List.set_cons_zero, addm1, Nat.reduceAdd, List.length_cons, List.length_nil, Nat.reduceLT, not_true_eq_false, not_false_eq_true, if_true, if_false, or_self, and_self, true_and, and_true, or_true, true_or, false_or, or_false, false_and, and_false, hx_0 hO, hX', pf_10150, sx_0 hO, su_at]
    · have e1 : etSt en sr mn (nI i) tray n 60 = 1 := if_pos g2
      rw [e1]
      unfold xO at hX' ⊢
      simp (disch := first | assumption | omega | decide | (simp only [List.length_cons, List.length_nil, Nat.reduceAdd, Nat.reduceLT]; done) | fail) only [r159_0, r159_1, r159_5, r159_5n, r159_7, r159_8, r159_12, r159_12n, r159_14, r159_15, r159_15n, r159_17, r159_17n, r159_19, r159_20, r159_25, r159_28, r159_29, r159_32, r159_35, r159_36, r159_37, r159_38, r159_41, r159_41n, r159_43, r159_43n, r159_45, r159_49, r159_51, r159_53, r159_54, r159_57, r159_58, r159_60, r159_63, r159_65, q159_2 (c_engineAt hN hX h hi) hc, q159_9 (c_trayAt_no g2) hc, q159_22n1 c_ets_n1, oGF_is, WPo_some, List.getElem?_cons_succ, List.getElem?_cons_zero, kil_n, kil_i, kil_a, kil_u, kil_l, Option.toList_some, Option.toList_none, List.cons_append, List.nil_append, List.set_cons_succ, List.set_cons_zero, addm1, Nat.reduceAdd, List.length_cons, List.length_nil, Nat.reduceLT, not_true_eq_false, not_false_eq_true, if_true, if_false, or_self, and_self, true_and, and_true, or_true, true_or, false_or, or_false, false_and, and_false, hx_0 hO, hX', pf_10150, sx_0 hO, su_at, show ¬ (1 : Int32) = 0 by decide]
  · by_cases g2 : 0 ≤ tray.toInt ∧ tray.toInt ≤ 3
    · obtain ⟨j, hj, rfl⟩ := i32_nat (n := 4) g2.1 (by omega)
      have e1 : etSt en sr mn e (nI j) n 60 = 2 := by
        unfold etSt
        rw [if_neg (not_not_intro g2), if_pos g1]
      rw [e1]
      unfold xO at hX' ⊢
      simp (disch := first | assumption | omega | decide | (simp only [List.length_cons, List.length_nil, Nat.reduceAdd, Nat.reduceLT]; done) | fail) only [r159_0, r159_1, r159_5, r159_5n, r159_7, r159_8, r159_12, r159_12n, r159_14, r159_15, r159_15n, r159_17, r159_17n, r159_19, r159_20, r159_25, r159_28, r159_29, r159_32, r159_35, r159_36, r159_37, r159_38, r159_41, r159_41n, r159_43, r159_43n, r159_45, r159_49, r159_51, r159_53, r159_54, r159_57, r159_58, r159_60, r159_63, r159_65, q159_2 (c_engineAt_no hN hX h4 g1) hc, q159_9 (c_trayAt hO hX ht hj) hc, q159_22n0 (c_ets_n0 (ht.TR hO hj)), oGF_is, WPo_some, List.getElem?_cons_succ, List.getElem?_cons_zero, kil_n, kil_i, kil_a, kil_u, kil_l, Option.toList_some, Option.toList_none, List.cons_append, List.nil_append, List.set_cons_succ, List.set_cons_zero, addm1, Nat.reduceAdd, List.length_cons, List.length_nil, Nat.reduceLT, not_true_eq_false, not_false_eq_true, if_true, if_false, or_self, and_self, true_and, and_true, or_true, true_or, false_or, or_false, false_and, and_false, hx_0 hO, hX', pf_10150, sx_0 hO, su_at, show ¬ (2 : Int32) = 0 by decide]
    · have e1 : etSt en sr mn e tray n 60 = 1 := if_pos g2
      rw [e1]
      unfold xO at hX' ⊢
      simp (disch := first | assumption | omega | decide | (simp only [List.length_cons, List.length_nil, Nat.reduceAdd, Nat.reduceLT]; done) | fail) only [r159_0, r159_1, r159_5, r159_5n, r159_7, r159_8, r159_12, r159_12n, r159_14, r159_15, r159_15n, r159_17, r159_17n, r159_19, r159_20, r159_25, r159_28, r159_29, r159_32, r159_35, r159_36, r159_37, r159_38, r159_41, r159_41n, r159_43, r159_43n, r159_45, r159_49, r159_51, r159_53, r159_54, r159_57, r159_58, r159_60, r159_63, r159_65, q159_2 (c_engineAt_no hN hX h4 g1) hc, q159_9 (c_trayAt_no g2) hc, q159_22n0n1 c_ets_n, oGF_is, WPo_some, List.getElem?_cons_succ, List.getElem?_cons_zero, kil_n, kil_i, kil_a, kil_u, kil_l, Option.toList_some, Option.toList_none, List.cons_append, List.nil_append, List.set_cons_succ, List.set_cons_zero, addm1, Nat.reduceAdd, List.length_cons, List.length_nil, Nat.reduceLT, not_true_eq_false, not_false_eq_true, if_true, if_false, or_self, and_self, true_and, and_true, or_true, true_or, false_or, or_false, false_and, and_false, hx_0 hO, hX', pf_10150, sx_0 hO, su_at, show ¬ (1 : Int32) = 0 by decide]
theorem x_explain_ok (hN : XN E ah A en) (hX : S 0 = xO A tx sp hT (nI en) tL st) (h : enS A S en ax wh rx fg tu ms mq) (ht : trS A S sr mn tn) (hcs : csX A S o) {i j R : Nat} (hi : i < en) (hj : j < 4) (hne : ¬ sr j = -1) (hR : 1 ≤ R ∧ R ≤ 60 ∧ R ≤ mn j) : ∃ S' res, EV E (c + 6) 159 [.ref (A 0), .int (nI i), .int (nI j), .int (nI R)] (oh E ah A S) (some (.int res)) (oh E ah A S') ∧ (∀ q, ¬ q = 0 → ¬ (3 ≤ q ∧ q < 8) → S' q = S q) ∧ (shw (ax i) (wh i) (rx i) cq0 (fg i) (sr j) (tn j) R → res = 0 ∧ S' 0 = xO A tx sp hT (nI en) tL 0 ∧ csX A S' none) ∧ (¬ shw (ax i) (wh i) (rx i) cq0 (fg i) (sr j) (tn j) R → ∀ f, FS (tryP (ax i) (wh i) (rx i) (fg i) (sr j) (tn j) R) R (3 * (ax i - 1) * wh i) f → (f = none → res = -1 ∧ S' 0 = xO A tx sp hT (nI en) tL 8 ∧ csX A S' o) ∧ (∀ t q, f = some (t, q) → res = 1 ∧ S' 0 = xO A tx sp hT (nI en) tL 0 ∧ csX A S' (exO (wh i) f))) := by
  have hO := hN.O
  have hc := hO.c0 hX
  have h4 := h.1
  have hx2 := h.x (e := xO A tx sp hT (nI en) tL 0)
  obtain ⟨t1, ei, el, hgr, hq⟩ := hx2.2.2 i hi
  have hB := hN.B hi
  have h5 : (1 : Int) ≤ R ∧ (R : Int) ≤ 60 := by omega
  have h6 : ¬ (mn j : Int) < R := by omega
  obtain ⟨tl, t, a, w, k, bf, af, as, sh, hcell, hval⟩ := hcs
  have hid : exS A (su S 0 (xO A tx sp hT (nI en) tL 0)) tl t a w k bf af as sh = su S 0 (xO A tx sp hT (nI en) tL 0) := exS_id (fun q hq => by rw [su_ne (by omega)]; exact hcell q hq)
  obtain ⟨tl', t', a2, w2, k2, bf', af', as', sh', res, ev, p1, p2⟩ := c_seek (c := c) (S := su S 0 (xO A tx sp hT (nI en) tL 0)) hO hB (by omega) hgr hq ht.x hj hR.2.2 hR.2.1 (tl := tl) (t := t) (a' := a) (w' := w) (k' := k) (bf := bf) (af := af) (as := as) (sh := sh)
  rw [hid] at ev
  have ci4 : oCI (Option.some ((su S 0 (xO A tx sp hT (nI en) tL 0)) 3)) = 4 := by
    rw [su_ne (by decide), show S 3 = exC A tl t a w k bf af as sh 0 from hcell 0 (by decide)]
    rfl
  have ci3 : oCI (hg E (oh E ah A (su S 0 (xO A tx sp hT (nI en) tL 0))) (A 3)) = 4 := by
    rw [hx_3 hO]
    exact ci4
  obtain ⟨T, hTT⟩ : ∃ T, T = exS A (su S 0 (xO A tx sp hT (nI en) tL 0)) tl' t' a2 w2 k2 bf' af' as' sh' := ⟨_, rfl⟩
  have T0 : T 0 = xO A tx sp hT (nI en) tL 0 := by rw [hTT, exS_o (by omega), su_at]
  have To : ∀ q, ¬ q = 0 → ¬ (3 ≤ q ∧ q < 8) → T q = S q := fun q h1 h2 => by rw [hTT, exS_o (by omega), su_ne h1]
  have Tc : ∀ q, q < 5 → T (3 + q) = exC A tl' t' a2 w2 k2 bf' af' as' sh' q := fun q hq => by
    rw [hTT]
    unfold exS
    rw [if_pos (by omega), show 3 + q - 3 = q by omega]
  rw [← hTT] at ev
  have hX' := hX
  have main : ∀ S', (res = -1 → S' = su T 0 (xO A tx sp hT (nI en) tL 8)) → (¬ res = -1 → S' = T) → EV E (c + 6) 159 [.ref (A 0), .int (nI i), .int (nI j), .int (nI R)] (oh E ah A S) (some (.int res)) (oh E ah A S') := fun S' s1 s2 => by
    refine e159 ?_
    by_cases z : res = -1
    · rw [s1 z]
      subst z
      unfold xO at hX' ev ci3 T0 ⊢
      simp (disch := first | assumption | omega | decide | (simp only [List.length_cons, List.length_nil, Nat.reduceAdd, Nat.reduceLT]; done) | fail) only [r159_0, r159_1, r159_5, r159_5n, r159_7, r159_8, r159_12, r159_12n, r159_14, r159_15, r159_15n, r159_17, r159_17n, r159_19, r159_20, r159_25, r159_28, r159_29, r159_32, r159_35, r159_36, r159_37, r159_38, r159_41, r159_41n, r159_43, r159_43n, r159_45, r159_49, r159_51, r159_53, r159_54, r159_57, r159_58, r159_60, r159_63, r159_65, q159_2 (c_engineAt hN hX h hi) hc, q159_9 (c_trayAt hO hX ht hj) hc, q159_22 (c_ets (ht.TR hO hj)), show (60 : Int32).toInt = 60 by decide, hne, h5, h6, nI_toInt, q159_46 ev ci3, oGF_is, WPo_some, List.getElem?_cons_succ, List.getElem?_cons_zero, kil_n, kil_i, kil_a, kil_u, kil_l, Option.toList_some, Option.toList_none, List.cons_append, List.nil_append, List.set_cons_succ, List.set_cons_zero, addm1, Nat.reduceAdd, List.length_cons, List.length_nil, Nat.reduceLT, not_true_eq_false, not_false_eq_true, if_true, if_false, or_self, and_self, true_and, and_true, or_true, true_or, false_or, or_false, false_and, and_false, hx_0 hO, hX', T0, pf_10150, sx_0 hO, su_at]
    · rw [s2 z]
      unfold xO at hX' ev ci3 T0
      simp (disch := first | assumption | omega | decide | (simp only [List.length_cons, List.length_nil, Nat.reduceAdd, Nat.reduceLT]; done) | fail) only [r159_0, r159_1, r159_5, r159_5n, r159_7, r159_8, r159_12, r159_12n, r159_14, r159_15, r159_15n, r159_17, r159_17n, r159_19, r159_20, r159_25, r159_28, r159_29, r159_32, r159_35, r159_36, r159_37, r159_38, r159_41, r159_41n, r159_43, r159_43n, r159_45, r159_49, r159_51, r159_53, r159_54, r159_57, r159_58, r159_60, r159_63, r159_65, q159_2 (c_engineAt hN hX h hi) hc, q159_9 (c_trayAt hO hX ht hj) hc, q159_22 (c_ets (ht.TR hO hj)), show (60 : Int32).toInt = 60 by decide, hne, h5, h6, nI_toInt, q159_46 ev ci3, oGF_is, WPo_some, List.getElem?_cons_succ, List.getElem?_cons_zero, kil_n, kil_i, kil_a, kil_u, kil_l, Option.toList_some, Option.toList_none, List.cons_append, List.nil_append, List.set_cons_succ, List.set_cons_zero, addm1, Nat.reduceAdd, List.length_cons, List.length_nil, Nat.reduceLT, not_true_eq_false, not_false_eq_true, if_true, if_false, or_self, and_self, true_and, and_true, or_true, true_or, false_or, or_false, false_and, and_false, hx_0 hO, hX', T0, pf_10150, sx_0 hO, su_at, z]
  by_cases ok : shw (ax i) (wh i) (rx i) cq0 (fg i) (sr j) (tn j) R
  · obtain ⟨r0, r1⟩ := p1 ok
    refine ⟨T, res, main T (fun z => absurd (r0.symm.trans z) (by decide)) (fun _ => rfl), To, fun _ => ⟨r0, T0, tl', t', a2, w2, k2, bf', af', as', sh', Tc, r1⟩, fun z => absurd ok z⟩
  · obtain ⟨f, hf⟩ := FS_ex (tryP (ax i) (wh i) (rx i) (fg i) (sr j) (tn j) R) R (3 * (ax i - 1) * wh i)
    obtain ⟨q1, q2⟩ := p2 ok f hf
    cases f with
    | none =>
      obtain ⟨r0, r1, r2, r3, r4, r5⟩ := q1 rfl
      refine ⟨su T 0 (xO A tx sp hT (nI en) tL 8), res, main _ (fun _ => rfl) (fun z => absurd r0 z), fun q a b => by rw [su_ne a]; exact To q a b, fun z => absurd z ok, fun _ f2 hf2 => ?_⟩
      rw [FS_un hf2 hf]
      refine ⟨fun _ => ⟨r0, su_at, tl', t', a2, w2, k2, bf', af', as', sh', fun q hq => by rw [su_ne (by omega)]; exact Tc q hq, ?_⟩, fun t q z => by simp at z⟩
      rw [r1, r2, r3, r4, r5]
      exact hval
    | some tq =>
      obtain ⟨t0, q0⟩ := tq
      obtain ⟨r0, r1, r2, r3, r4, r5⟩ := q2 t0 q0 rfl
      refine ⟨T, res, main T (fun z => absurd (r0.symm.trans z) (by decide)) (fun _ => rfl), To, fun z => absurd z ok, fun _ f2 hf2 => ?_⟩
      rw [FS_un hf2 hf]
      exact ⟨fun z => by simp at z, fun t q z => ⟨r0, T0, tl', t', a2, w2, k2, bf', af', as', sh', Tc, r1, r2, r3, r4, r5⟩⟩
theorem x_because (hO : XO E ah A) {eC : Int32} (hX : S 0 = xO A tx sp hT eC tL st) (hcs : csX A S o) {w : Int32} : EV E (c + 2) 160 [.ref (A 0), .int w] (oh E ah A S) (some (.int (beR o w))) (oh E ah A (su S 0 (xO A tx sp hT eC tL (beSt o w)))) := by
  obtain ⟨tl, t, a, x, k, bf, af, as, sh, hcell, hval⟩ := hcs
  have s3 : S 3 = .inr (4, [.ref (A 4), .ref (A 5), .ref (A 6), .ref (A 7), .int tl, .int t, .int a, .int x, .int k]) := hcell 0 (by decide)
  have hc := hO.c0 hX
  have ci3 : ∀ e, oCI (hg E (oh E ah A (su S 0 e)) (A 3)) = 4 := fun e => by rw [hx_3 hO, su_ne (by decide), s3]; rfl
  have ci3' : oCI (hg E (oh E ah A S) (A 3)) = 4 := by rw [hx_3 hO, s3]; rfl
  have htl : tl = 0 ∨ tl = 1 := by
    cases o with
    | none => exact Or.inl hval
    | some q => exact Or.inr hval.1
  have kt : ∀ c, EV E c 74 [.ref (A 3)] (oh E ah A S) (some (.int tl)) (oh E ah A S) := fun c => by
    refine e74 ?_
    simp (disch := first | assumption | omega | decide | (simp only [List.length_cons, List.length_nil, Nat.reduceAdd, Nat.reduceLT]; done) | fail) only [r74_0, r74_1, r74_4 htl, hx_3 hO, s3, oGF_is, WPo_some, List.getElem?_cons_succ, List.getElem?_cons_zero, kil_n, kil_i, kil_a, kil_u, kil_l, Option.toList_some, Option.toList_none, List.cons_append, List.nil_append, List.set_cons_succ, List.set_cons_zero, addm1, Nat.reduceAdd, List.length_cons, List.length_nil, Nat.reduceLT, not_true_eq_false, not_false_eq_true, if_true, if_false, or_self, and_self, true_and, and_true, or_true, true_or, false_or, or_false, false_and, and_false]
  have hX' := hX
  refine e160 ?_
  unfold beR beSt xO at *
  by_cases h1 : 0 ≤ w.toInt ∧ w.toInt ≤ 3
  · have h2 : ¬ w < 0 := by simp only [i32_lt, i32_le, i64_lt, i64_le, i2l_toInt, Int32.reduceToInt, Int64.reduceToInt]; omega
    have h3 : w ≤ 3 := by simp only [i32_lt, i32_le, i64_lt, i64_le, i2l_toInt, Int32.reduceToInt, Int64.reduceToInt]; omega
    cases o with
    | none =>
      have hval : tl = 0 := hval
      subst hval
      simp (disch := first | assumption | omega | decide | (simp only [List.length_cons, List.length_nil, Nat.reduceAdd, Nat.reduceLT]; done) | fail) only [r160_0, r160_1, r160_4, r160_5, r160_6, r160_9, r160_10, r160_11, r160_14, r160_17, r160_18, r160_19, r160_25, r160_28, r160_29, r160_32, r160_34, r160_37, r160_38, r160_41, r160_44, r160_45, r160_48, r160_52, r160_55, r160_56, q160_22 (kt _) ci3', h1, h2, h3, hx_0 hO, hX', pf_10150, sx_0 hO, su_at, oGF_is, WPo_some, List.getElem?_cons_succ, List.getElem?_cons_zero, kil_n, kil_i, kil_a, kil_u, kil_l, Option.toList_some, Option.toList_none, List.cons_append, List.nil_append, List.set_cons_succ, List.set_cons_zero, addm1, Nat.reduceAdd, List.length_cons, List.length_nil, Nat.reduceLT, not_true_eq_false, not_false_eq_true, if_true, if_false, or_self, and_self, true_and, and_true, or_true, true_or, false_or, or_false, false_and, and_false, show ¬ (8 : Int32) = 0 by decide]
    | some q =>
      obtain ⟨t0, a0, w0, k0⟩ := q
      obtain ⟨v1, v2, v3, v4, v5⟩ := hval
      subst v1
      have kd : ∀ e, EV E (c + 1) 75 [.ref (A 3), .int w] (oh E ah A (su S 0 e)) (some (.int (if w = 0 then nI t0 else if w = 1 then nI a0 else if w = 2 then nI w0 else nI k0))) (oh E ah A (su S 0 e)) := fun e => by
        have s3' : hg E (oh E ah A (su S 0 e)) (A 3) = some (.inr (4, [.ref (A 4), .ref (A 5), .ref (A 6), .ref (A 7), .int 1, .int t, .int a, .int x, .int k])) := by rw [hx_3 hO, su_ne (by decide), s3]
        refine e75 ?_
        subst v2 v3 v4 v5
        by_cases h0 : w = 0
        · subst h0
          simp (disch := first | assumption | omega | decide | (simp only [List.length_cons, List.length_nil, Nat.reduceAdd, Nat.reduceLT]; done) | fail) only [r75_0, r75_1_0, r75_28, r75_29, r75_32, r75_33, r75_34, r75_37, r75_38, r75_39, r75_42, r75_43, r75_44, r75_47, s3', oGF_is, WPo_some, List.getElem?_cons_succ, List.getElem?_cons_zero, kil_n, kil_i, kil_a, kil_u, kil_l, Option.toList_some, Option.toList_none, List.cons_append, List.nil_append, List.set_cons_succ, List.set_cons_zero, addm1, Nat.reduceAdd, List.length_cons, List.length_nil, Nat.reduceLT, not_true_eq_false, not_false_eq_true, if_true, if_false, or_self, and_self, true_and, and_true, or_true, true_or, false_or, or_false, false_and, and_false]
        · by_cases h1' : w = 1
          · subst h1'
            simp (disch := first | assumption | omega | decide | (simp only [List.length_cons, List.length_nil, Nat.reduceAdd, Nat.reduceLT]; done) | fail) only [r75_0, r75_1_1, r75_28, r75_29, r75_32, r75_33, r75_34, r75_37, r75_38, r75_39, r75_42, r75_43, r75_44, r75_47, s3', oGF_is, WPo_some, List.getElem?_cons_succ, List.getElem?_cons_zero, kil_n, kil_i, kil_a, kil_u, kil_l, Option.toList_some, Option.toList_none, List.cons_append, List.nil_append, List.set_cons_succ, List.set_cons_zero, addm1, Nat.reduceAdd, List.length_cons, List.length_nil, Nat.reduceLT, not_true_eq_false, not_false_eq_true, if_true, if_false, or_self, and_self, true_and, and_true, or_true, true_or, false_or, or_false, false_and, and_false, h0]
          · by_cases h2' : w = 2
            · subst h2'
              simp (disch := first | assumption | omega | decide | (simp only [List.length_cons, List.length_nil, Nat.reduceAdd, Nat.reduceLT]; done) | fail) only [r75_0, r75_1_2, r75_28, r75_29, r75_32, r75_33, r75_34, r75_37, r75_38, r75_39, r75_42, r75_43, r75_44, r75_47, s3', oGF_is, WPo_some, List.getElem?_cons_succ, List.getElem?_cons_zero, kil_n, kil_i, kil_a, kil_u, kil_l, Option.toList_some, Option.toList_none, List.cons_append, List.nil_append, List.set_cons_succ, List.set_cons_zero, addm1, Nat.reduceAdd, List.length_cons, List.length_nil, Nat.reduceLT, not_true_eq_false, not_false_eq_true, if_true, if_false, or_self, and_self, true_and, and_true, or_true, true_or, false_or, or_false, false_and, and_false, h0, h1']
            · have h3' : w.toInt < 0 ∨ 2 < w.toInt := by
                have e0 : ¬ w.toInt = 0 := fun z => h0 (Int32.toInt_inj.mp z)
                have e1 : ¬ w.toInt = 1 := fun z => h1' (Int32.toInt_inj.mp z)
                have e2 : ¬ w.toInt = 2 := fun z => h2' (Int32.toInt_inj.mp z)
                omega
              rw [r75_0, r75_1_d h3']
              simp (disch := first | assumption | omega | decide | (simp only [List.length_cons, List.length_nil, Nat.reduceAdd, Nat.reduceLT]; done) | fail) only [r75_28, r75_29, r75_32, r75_33, r75_34, r75_37, r75_38, r75_39, r75_42, r75_43, r75_44, r75_47, s3', oGF_is, WPo_some, List.getElem?_cons_succ, List.getElem?_cons_zero, kil_n, kil_i, kil_a, kil_u, kil_l, Option.toList_some, Option.toList_none, List.cons_append, List.nil_append, List.set_cons_succ, List.set_cons_zero, addm1, Nat.reduceAdd, List.length_cons, List.length_nil, Nat.reduceLT, not_true_eq_false, not_false_eq_true, if_true, if_false, or_self, and_self, true_and, and_true, or_true, true_or, false_or, or_false, false_and, and_false, h0, h1', h2']
      simp (disch := first | assumption | omega | decide | (simp only [List.length_cons, List.length_nil, Nat.reduceAdd, Nat.reduceLT]; done) | fail) only [r160_0, r160_1, r160_4, r160_5, r160_6, r160_9, r160_10, r160_11, r160_14, r160_17, r160_18, r160_19, r160_25, r160_28, r160_29, r160_32, r160_34, r160_37, r160_38, r160_41, r160_44, r160_45, r160_48, r160_52, r160_55, r160_56, q160_22 (kt _) ci3', q160_49 (kd _) (ci3 _), h1, h2, h3, hx_0 hO, hX', pf_10150, sx_0 hO, su_at, oGF_is, WPo_some, List.getElem?_cons_succ, List.getElem?_cons_zero, kil_n, kil_i, kil_a, kil_u, kil_l, Option.toList_some, Option.toList_none, List.cons_append, List.nil_append, List.set_cons_succ, List.set_cons_zero, addm1, Nat.reduceAdd, List.length_cons, List.length_nil, Nat.reduceLT, not_true_eq_false, not_false_eq_true, if_true, if_false, or_self, and_self, true_and, and_true, or_true, true_or, false_or, or_false, false_and, and_false, show ¬ (1 : Int32) = 0 by decide]
  · by_cases h2 : w < 0
    · simp (disch := first | assumption | omega | decide | (simp only [List.length_cons, List.length_nil, Nat.reduceAdd, Nat.reduceLT]; done) | fail) only [r160_0, r160_1, r160_4, r160_5, r160_6, r160_9, r160_10, r160_11, r160_14, r160_17, r160_18, r160_19, r160_25, r160_28, r160_29, r160_32, r160_34, r160_37, r160_38, r160_41, r160_44, r160_45, r160_48, r160_52, r160_55, r160_56, h1, h2, hx_0 hO, hX', pf_10150, sx_0 hO, su_at, oGF_is, WPo_some, List.getElem?_cons_succ, List.getElem?_cons_zero, kil_n, kil_i, kil_a, kil_u, kil_l, Option.toList_some, Option.toList_none, List.cons_append, List.nil_append, List.set_cons_succ, List.set_cons_zero, addm1, Nat.reduceAdd, List.length_cons, List.length_nil, Nat.reduceLT, not_true_eq_false, not_false_eq_true, if_true, if_false, or_self, and_self, true_and, and_true, or_true, true_or, false_or, or_false, false_and, and_false, show ¬ (5 : Int32) = 0 by decide]
    · have h3 : ¬ w ≤ 3 := by simp only [i32_lt, i32_le, i64_lt, i64_le, i2l_toInt, Int32.reduceToInt, Int64.reduceToInt] at h2 ⊢; omega
      simp (disch := first | assumption | omega | decide | (simp only [List.length_cons, List.length_nil, Nat.reduceAdd, Nat.reduceLT]; done) | fail) only [r160_0, r160_1, r160_4, r160_5, r160_6, r160_9, r160_10, r160_11, r160_14, r160_17, r160_18, r160_19, r160_25, r160_28, r160_29, r160_32, r160_34, r160_37, r160_38, r160_41, r160_44, r160_45, r160_48, r160_52, r160_55, r160_56, h1, h2, h3, hx_0 hO, hX', pf_10150, sx_0 hO, su_at, oGF_is, WPo_some, List.getElem?_cons_succ, List.getElem?_cons_zero, kil_n, kil_i, kil_a, kil_u, kil_l, Option.toList_some, Option.toList_none, List.cons_append, List.nil_append, List.set_cons_succ, List.set_cons_zero, addm1, Nat.reduceAdd, List.length_cons, List.length_nil, Nat.reduceLT, not_true_eq_false, not_false_eq_true, if_true, if_false, or_self, and_self, true_and, and_true, or_true, true_or, false_or, or_false, false_and, and_false, show ¬ (5 : Int32) = 0 by decide]
end EX8

/-! The model explains, and says because of what -/
noncomputable def csM (v : Nat → Value) : Option (Nat × Nat × Nat × Nat) → Prop
  | none => v 22 = .int (-1)
  | some (t, a, w, k) => (v 22 = .int (nI t) ∧ v 23 = .int (nI a) ∧ v 24 = .int (nI w) ∧ v 25 = .int (nI k)) ∧ t ≤ 60 ∧ a ≤ 7 ∧ w ≤ 12 ∧ k ≤ 2
noncomputable def frX (v v' : Nat → Value) : Prop := ∀ k, ¬ (k ≤ 1 ∨ (18 ≤ k ∧ k ≤ 25)) → v' k = v k
noncomputable def exO (wh : Nat) : Option (Nat × Nat) → Option (Nat × Nat × Nat × Nat)
  | none => none
  | some (t, q) => some (t + 1, q / (3 * wh), q / 3 % wh, q % 3)
theorem FS_un {P : Nat → Nat → Prop} {R Q : Nat} {o o' : Option (Nat × Nat)} (h : FS P R Q o) (h' : FS P R Q o') : o = o' := by
  cases o with
  | none =>
    cases o' with
    | none => rfl
    | some tq => exact absurd h'.2.2.1 (h _ _ h'.1 h'.2.1)
  | some tq =>
    obtain ⟨t, q⟩ := tq
    cases o' with
    | none => exact absurd h.2.2.1 (h' _ _ h.1 h.2.1)
    | some tq' =>
      obtain ⟨t', q'⟩ := tq'
      obtain ⟨a1, a2, a3, a4, a5⟩ := h'
      obtain ⟨b1, b2, b3, b4, b5⟩ := h
      have et : t' = t := by
        rcases Nat.lt_trichotomy t t' with z | z | z
        · exact absurd b3 (a4 t q z b2)
        · exact z.symm
        · exact absurd a3 (b4 t' q' z a2)
      subst et
      have eq : q' = q := by
        rcases Nat.lt_trichotomy q q' with z | z | z
        · exact absurd b3 (a5 q z)
        · exact z.symm
        · exact absurd a3 (b5 q' z)
      rw [eq]
section EXM3
variable {E : aEnv} {c m : Nat} {ah : aHp} {ma : Nat → Nat} {v : Nat → Value} {ai : Nat → Nat → Int32} {al : Nat → Nat → Int64} {e axx whh : Nat} {r : Nat → Nat}
theorem l_exO (h : MO E ah m ma) {j R : Nat} {sr : Nat → Int32} {mn : Nat → Nat} {tn : Nat → Nat → Int64} (hj : j < 4) (hne : ¬ sr j = -1) (hR : R ≤ mn j) (hR60 : R ≤ 60) {fg : Nat → Nat → Nat} (hq : EQ ai e axx whh r) (hT : TM ai al sr mn tn) (hF : EF (ai 10) e axx whh r fg) {Q : Option Value → aHp → Prop} (K : (∀ t q, t < R → q < 3 * (axx - 1) * whh → ¬ tryP axx whh r fg (sr j) (tn j) R t q) → ∀ v' ai', frV v v' → frA ai ai' → Q (some (.int (-1))) (mh E ah m ma (vu v' 0 (.int 8)) ai' al))
    (G : ∀ t q v' ai', FS (tryP axx whh r fg (sr j) (tn j) R) R (3 * (axx - 1) * whh) (some (t, q)) → frV v v' → frA ai ai' → Q (some (.int 1)) (mh E ah m ma (vu (vu (vu (vu v' 22 (.int (nI (t + 1)))) 23 (.int (nI (q / (3 * whh))))) 24 (.int (nI (q / 3 % whh)))) 25 (.int (nI (q % 3)))) ai' al)) :
    ∀ z t v' ai' l5, t + z = R → (∀ t' q', t' < t → q' < 3 * (axx - 1) * whh → ¬ tryP axx whh r fg (sr j) (tn j) R t' q') → frV v v' → frA ai ai' → WP E (c + 4) 229 50 [some (.ref m), some (.int (nI e)), some (.int (nI j)), some (.int (nI R)), some (.int (nI (t + 1))), l5] [] (mh E ah m ma v' ai' al) Q
  | 0, t, v', ai', l5, hz, hn, hv, ha => by
    have K := K (fun t' q' h1 h2 => hn t' q' (by omega) h2) v' ai' hv ha
    rw [r229_50]
    simp (disch := first | assumption | omega | decide | (simp only [List.length_cons, List.length_nil, Nat.reduceAdd, Nat.reduceLT]; done) | fail) only [r229_52, r229_53, r229_182, r229_183, r229_188, q229_185 (m_refuse h) h.ci, WPo_some, List.getElem?_cons_succ, List.getElem?_cons_zero, kil_n, kil_i, kil_a, kil_u, kil_l, Option.toList_some, Option.toList_none, List.cons_append, List.nil_append, List.set_cons_succ, List.set_cons_zero, addm1, Nat.reduceAdd, List.length_cons, List.length_nil, Nat.reduceLT, nI_clamp, nI_toInt, nI_leL, nI_Lle, nI_ltL, nI_Llt, nI_eqL, nI_Leq, nI_leE, nI_ltE, nI_eqE, nI_eqM, nI_add, nI_addL, nI_Ladd, nI_mulL, nI_Lmul, pk_mul, pk_sub, nI_subL, nI_Lsub, i2l_nI, Int.toNat_natCast, Nat.not_lt_zero, Nat.zero_le, ifT, ifF, not_true_eq_false, not_false_eq_true, if_true, if_false, or_self, and_self, true_and, and_true, or_true, true_or, false_or, or_false, false_and, and_false]
    exact K
  | z + 1, t, v', ai', l5, hz, hn, hv, ha => by
    have l := l_exI (c := c) (v := v) h hj hne hR hR60 hq hT hF (show t < R by omega) (Q := Q) (fun hno v2 ai2 l5 hv2 ha2 => by
      have ih := l_exO h hj hne hR hR60 hq hT hF K G z (t + 1) v2 ai2 l5 (by omega) (fun t' q' h1 h2 => by
        by_cases y : t' = t
        · rw [y]; exact hno q' h2
        · exact hn t' q' (by omega) h2) hv2 ha2
      simp (disch := first | assumption | omega | decide | (simp only [List.length_cons, List.length_nil, Nat.reduceAdd, Nat.reduceLT]; done) | fail) only [r229_176, r229_179, WPo_some, List.getElem?_cons_succ, List.getElem?_cons_zero, kil_n, kil_i, kil_a, kil_u, kil_l, Option.toList_some, Option.toList_none, List.cons_append, List.nil_append, List.set_cons_succ, List.set_cons_zero, addm1, Nat.reduceAdd, List.length_cons, List.length_nil, Nat.reduceLT, nI_clamp, nI_toInt, nI_leL, nI_Lle, nI_ltL, nI_Llt, nI_eqL, nI_Leq, nI_leE, nI_ltE, nI_eqE, nI_eqM, nI_add, nI_addL, nI_Ladd, nI_mulL, nI_Lmul, pk_mul, pk_sub, nI_subL, nI_Lsub, i2l_nI, Int.toNat_natCast, Nat.not_lt_zero, Nat.zero_le, ifT, ifF, not_true_eq_false, not_false_eq_true, if_true, if_false, or_self, and_self, true_and, and_true, or_true, true_or, false_or, or_false, false_and, and_false]
      exact ih) (fun q v2 ai2 h1 h2 h3 hv2 ha2 => G t q v2 ai2 ⟨by omega, h1, h2, hn, h3⟩ hv2 ha2) (3 * (axx - 1) * whh) 0 v' ai' (by omega) (fun q' hq' => absurd hq' (by omega)) hv ha
    rw [r229_50]
    simp (disch := first | assumption | omega | decide | (simp only [List.length_cons, List.length_nil, Nat.reduceAdd, Nat.reduceLT]; done) | fail) only [r229_52, r229_53, r229_56, r229_57, WPo_some, List.getElem?_cons_succ, List.getElem?_cons_zero, kil_n, kil_i, kil_a, kil_u, kil_l, Option.toList_some, Option.toList_none, List.cons_append, List.nil_append, List.set_cons_succ, List.set_cons_zero, addm1, Nat.reduceAdd, List.length_cons, List.length_nil, Nat.reduceLT, nI_clamp, nI_toInt, nI_leL, nI_Lle, nI_ltL, nI_Llt, nI_eqL, nI_Leq, nI_leE, nI_ltE, nI_eqE, nI_eqM, nI_add, nI_addL, nI_Ladd, nI_mulL, nI_Lmul, pk_mul, pk_sub, nI_subL, nI_Lsub, i2l_nI, Int.toNat_natCast, Nat.not_lt_zero, Nat.zero_le, ifT, ifF, not_true_eq_false, not_false_eq_true, if_true, if_false, or_self, and_self, true_and, and_true, or_true, true_or, false_or, or_false, false_and, and_false]
    exact l
variable {en : Nat} {ax wh : Nat → Nat} {rx : Nat → Nat → Nat} {fg : Nat → Nat → Nat → Nat} {tu ms : Nat → Nat} {mq : Nat → Nat → Nat → Nat} {sr : Nat → Int32} {mn : Nat → Nat} {tn : Nat → Nat → Int64}
theorem etSt_le {e tray n : Int32} {top : Int} : (etSt en sr mn e tray n top ≤ 0) = (etSt en sr mn e tray n top = 0) := by
  unfold etSt
  repeat' split
  all_goals decide
theorem m_explain_no (h : MO E ah m ma) (hm : enM v ai en ax wh rx fg tu ms mq) (hT : TM ai al sr mn tn) {e tray n : Int32} (hs : ¬ etSt en sr mn e tray n 60 = 0) : EV E (c + 5) 229 [.ref m, .int e, .int tray, .int n] (mh E ah m ma v ai al) (some (.int (-1))) (mh E ah m ma (vu (vu v 1 (.int 0)) 0 (.int (etSt en sr mn e tray n 60))) ai al) := by
  refine e229 ?_
  have e0 : ∀ z, vu (vu v 1 (.int 0)) 0 z 0 = z := fun z => by simp [vu]
  have hm' : enM (vu v 1 (.int 0)) ai en ax wh rx fg tu ms mq := hm
  simp (disch := first | assumption | omega | decide | (simp only [List.length_cons, List.length_nil, Nat.reduceAdd, Nat.reduceLT]; done) | fail) only [r229_0, r229_1, r229_2, r229_5, r229_6, r229_7, r229_8, r229_9, r229_13, r229_16, r229_17, r229_20, r229_23, r229_24, mh_o h, mh_put h, pm_1, pm_0, gm_0, WPo_some, List.getElem?_cons_succ, List.getElem?_cons_zero, kil_n, kil_i, kil_a, kil_u, kil_l, Option.toList_some, Option.toList_none, List.cons_append, List.nil_append, List.set_cons_succ, List.set_cons_zero, addm1, Nat.reduceAdd, List.length_cons, List.length_nil, Nat.reduceLT, q229_10 (m_asks h hm' hT) h.ci, etSt_le, hs, e0, not_true_eq_false, not_false_eq_true, if_true, if_false, or_self, and_self, true_and, and_true, or_true, true_or, false_or, or_false, false_and, and_false]
theorem m_explain_ok (h : MO E ah m ma) (hm : enM v ai en ax wh rx fg tu ms mq) (hT : TM ai al sr mn tn) {i j R : Nat} (hi : i < en) (hj : j < 4) (hne : ¬ sr j = -1) (hR : 1 ≤ R ∧ R ≤ 60 ∧ R ≤ mn j) : ∃ v' ai' res, EV E (c + 5) 229 [.ref m, .int (nI i), .int (nI j), .int (nI R)] (mh E ah m ma v ai al) (some (.int res)) (mh E ah m ma v' ai' al) ∧ frX v v' ∧ frA ai ai' ∧ v' 1 = .int 0 ∧ (shw (ax i) (wh i) (rx i) cq0 (fg i) (sr j) (tn j) R → res = 0 ∧ v' 0 = .int 0 ∧ csM v' none) ∧ (¬ shw (ax i) (wh i) (rx i) cq0 (fg i) (sr j) (tn j) R → ∀ o, FS (tryP (ax i) (wh i) (rx i) (fg i) (sr j) (tn j) R) R (3 * (ax i - 1) * wh i) o → (o = none → res = -1 ∧ v' 0 = .int 8 ∧ ∀ k, 22 ≤ k → k ≤ 25 → v' k = v k) ∧ (∀ t q, o = some (t, q) → res = 1 ∧ v' 0 = .int 0 ∧ csM v' (exO (wh i) o))) := by
  have h4 := hm.1
  have hm' : enM (vu v 1 (.int 0)) ai en ax wh rx fg tu ms mq := hm
  have e0 : ∀ z, vu (vu v 1 (.int 0)) 0 z 0 = z := fun z => by simp [vu]
  obtain ⟨hq, f1, t1, d1⟩ := hm.2.2.1 i hi
  have s0 : etSt en sr mn (nI i) (nI j) (nI R) 60 = 0 := by
    rw [etSt_i hi h4 hj, nI_toInt (by omega), if_neg hne, if_neg (by omega), if_neg (by omega)]
  obtain ⟨v1, hv1⟩ : ∃ v1, v1 = vu (vu (vu v 1 (.int 0)) 0 (.int 0)) 18 (.int (-1)) := ⟨_, rfl⟩
  obtain ⟨C, Z, k1⟩ := m_shows (c := c + 1) (v := v1) (ai := ai) (al := al) h (fun ai al t' h1 h2 => MC_none h (by rw [hv1]; rfl) h2) (fun t w => rfl) hj hne hR.2.2 hR.2.1 (fg := fg i) hq hT f1
  have ha1 : frA ai (iu (iu ai 11 C) 17 Z) := fun k hk => by rw [iu_ne (by omega), iu_ne (by omega)]
  have hv1x : frX v v1 := fun k hk => by rw [hv1, vu_ne (by omega), vu_ne (by omega), vu_ne (by omega)]
  have v10 : v1 0 = .int 0 := by rw [hv1]; rfl
  have v11 : v1 1 = .int 0 := by rw [hv1]; rfl
  have v1c : ∀ k, 22 ≤ k → k ≤ 25 → v1 k = v k := fun k a b => by rw [hv1, vu_ne (by omega), vu_ne (by omega), vu_ne (by omega)]
  have frx : ∀ v2, frV v1 v2 → frX v v2 := fun v2 hv k hk => by rw [hv k (by omega)]; exact hv1x k hk
  by_cases ok : shw (ax i) (wh i) (rx i) cq0 (fg i) (sr j) (tn j) R
  · rw [bC_t ok] at k1
    refine ⟨vu v1 22 (.int (-1)), iu (iu ai 11 C) 17 Z, 0, e229 ?_, fun k hk => by rw [vu_ne (by omega)]; exact hv1x k hk, ha1, v11, fun _ => ⟨rfl, v10, rfl⟩, fun z => absurd ok z⟩
    rw [hv1] at k1 ⊢
    simp (disch := first | assumption | omega | decide | (simp only [List.length_cons, List.length_nil, Nat.reduceAdd, Nat.reduceLT]; done) | fail) only [r229_0, r229_1, r229_2, r229_5, r229_6, r229_7, r229_8, r229_9, r229_13, r229_16, r229_17, r229_20, r229_23, r229_24, r229_25, r229_26, r229_27, r229_30, r229_31, r229_32, r229_33, r229_37, r229_40, r229_41, r229_42, r229_45, r229_46, mh_o h, mh_put h, pm_1, pm_0, pm_18, pm_22, gm_0, WPo_some, List.getElem?_cons_succ, List.getElem?_cons_zero, kil_n, kil_i, kil_a, kil_u, kil_l, Option.toList_some, Option.toList_none, List.cons_append, List.nil_append, List.set_cons_succ, List.set_cons_zero, addm1, Nat.reduceAdd, List.length_cons, List.length_nil, Nat.reduceLT, q229_10 (m_asks h hm' hT) h.ci, q229_34 k1 h.ci, etSt_le, s0, e0, not_true_eq_false, not_false_eq_true, if_true, if_false, or_self, and_self, true_and, and_true, or_true, true_or, false_or, or_false, false_and, and_false, show (0 : Int32) ≤ 0 by decide, show ¬ (1 : Int32) = 0 by decide]
  · rw [bC_f ok] at k1
    obtain ⟨o, ho⟩ := FS_ex (tryP (ax i) (wh i) (rx i) (fg i) (sr j) (tn j) R) R (3 * (ax i - 1) * wh i)
    have l := l_exO (c := c + 1) (v := v1) (ai := ai) h hj hne hR.2.2 hR.2.1 hq hT f1 (Q := fun r1 x1 => ∃ v' ai' res, r1 = some (.int res) ∧ x1 = mh E ah m ma v' ai' al ∧ frX v v' ∧ frA ai ai' ∧ v' 1 = .int 0 ∧ (o = none → res = -1 ∧ v' 0 = .int 8 ∧ ∀ k, 22 ≤ k → k ≤ 25 → v' k = v k) ∧ (∀ t q, o = some (t, q) → res = 1 ∧ v' 0 = .int 0 ∧ csM v' (exO (wh i) o))) (fun hno v2 ai2 hv2 ha2 => by
      refine ⟨vu v2 0 (.int 8), ai2, -1, rfl, rfl, fun k hk => by rw [vu_ne (by omega)]; exact frx v2 hv2 k hk, ha2, by rw [vu_ne (by decide), hv2 1 (by omega)]; exact v11, fun _ => ⟨rfl, vu_at, fun k a b => by rw [vu_ne (by omega), hv2 k (by omega)]; exact v1c k a b⟩, fun t q ho2 => ?_⟩
      rw [ho2] at ho
      exact absurd ho.2.2.1 (hno t q ho.1 ho.2.1)) (fun t q v2 ai2 hfs hv2 ha2 => by
      have hb := hq.2.1
      have hot : o = some (t, q) := FS_un ho hfs
      refine ⟨_, ai2, 1, rfl, rfl, fun k hk => by rw [vu_ne (by omega), vu_ne (by omega), vu_ne (by omega), vu_ne (by omega)]; exact frx v2 hv2 k hk, ha2, by rw [vu_ne (by decide), vu_ne (by decide), vu_ne (by decide), vu_ne (by decide), hv2 1 (by omega)]; exact v11, fun z => absurd (hot.symm.trans z) (by simp), fun t' q' _ => ⟨rfl, by rw [vu_ne (by decide), vu_ne (by decide), vu_ne (by decide), vu_ne (by decide), hv2 0 (by omega)]; exact v10, ?_⟩⟩
      rw [hot]
      have w1 : q / (3 * wh i) < ax i - 1 := Nat.div_lt_of_lt_mul (by
        have e1 : 3 * wh i * (ax i - 1) = 3 * (ax i - 1) * wh i := by rw [Nat.mul_assoc, Nat.mul_comm (wh i), ← Nat.mul_assoc]
        rw [e1]
        exact hfs.2.1)
      have w2 : q / 3 % wh i < wh i := Nat.mod_lt _ (by omega)
      exact ⟨⟨rfl, rfl, rfl, rfl⟩, by have := hfs.1; omega, by omega, by omega, by omega⟩) R 0 v1 (iu (iu ai 11 C) 17 Z) none (by omega) (fun t' q' h1 => absurd h1 (by omega)) (fun k hk => rfl) ha1
    obtain ⟨r1, x1, ⟨v', ai', res, hr1, hx1, p1, p2, p3, p4, p5⟩, hw⟩ := l.ex
    subst hr1 hx1
    refine ⟨v', ai', res, e229 ?_, p1, p2, p3, fun z => absurd z ok, fun _ o2 ho2 => ?_⟩
    · rw [hv1] at k1 hw
      simp (disch := first | assumption | omega | decide | (simp only [List.length_cons, List.length_nil, Nat.reduceAdd, Nat.reduceLT]; done) | fail) only [r229_0, r229_1, r229_2, r229_5, r229_6, r229_7, r229_8, r229_9, r229_13, r229_16, r229_17, r229_20, r229_23, r229_24, r229_25, r229_26, r229_27, r229_30, r229_31, r229_32, r229_33, r229_37, r229_40, r229_41, r229_42, r229_45, r229_46, r229_47, r229_48, mh_o h, mh_put h, pm_1, pm_0, pm_18, pm_22, gm_0, WPo_some, List.getElem?_cons_succ, List.getElem?_cons_zero, kil_n, kil_i, kil_a, kil_u, kil_l, Option.toList_some, Option.toList_none, List.cons_append, List.nil_append, List.set_cons_succ, List.set_cons_zero, addm1, Nat.reduceAdd, List.length_cons, List.length_nil, Nat.reduceLT, q229_10 (m_asks h hm' hT) h.ci, q229_34 k1 h.ci, etSt_le, s0, e0, not_true_eq_false, not_false_eq_true, if_true, if_false, or_self, and_self, true_and, and_true, or_true, true_or, false_or, or_false, false_and, and_false, show (0 : Int32) ≤ 0 by decide]
      exact hw
    · have : o2 = o := FS_un ho2 ho
      rw [this]
      exact ⟨p4, p5⟩
noncomputable def beSt (o : Option (Nat × Nat × Nat × Nat)) (w : Int32) : Int32 := if ¬ (0 ≤ w.toInt ∧ w.toInt ≤ 3) then 5 else match o with
  | none => 8
  | some _ => 0
noncomputable def beR (o : Option (Nat × Nat × Nat × Nat)) (w : Int32) : Int32 := if ¬ (0 ≤ w.toInt ∧ w.toInt ≤ 3) then -1 else match o with
  | none => -1
  | some (t, a, x, k) => if w = 0 then nI t else if w = 1 then nI a else if w = 2 then nI x else nI k
theorem m_because (h : MO E ah m ma) {o : Option (Nat × Nat × Nat × Nat)} (hc : csM v o) {w : Int32} : EV E (c + 1) 230 [.ref m, .int w] (mh E ah m ma v ai al) (some (.int (beR o w))) (mh E ah m ma (vu (vu v 1 (.int 0)) 0 (.int (beSt o w))) ai al) := by
  refine e230 ?_
  unfold beR beSt
  by_cases h1 : 0 ≤ w.toInt ∧ w.toInt ≤ 3
  · cases o with
    | none =>
      have hc : v 22 = .int (-1) := hc
      have e22 : vu (vu v 1 (.int 0)) 0 (.int 0) 22 = .int (-1) := hc
      simp (disch := first | assumption | omega | decide | (simp only [List.length_cons, List.length_nil, Nat.reduceAdd, Nat.reduceLT]; done) | fail) only [r230_0, r230_1, r230_2, r230_5, r230_6, r230_7, r230_10, r230_11, r230_12, r230_13, r230_19, r230_22, r230_23, r230_27, r230_28, r230_29, r230_32, r230_35, r230_36, r230_41, r230_42, r230_43, r230_46, r230_47, r230_50, r230_53, r230_54, r230_55, r230_58, r230_59, r230_62, r230_65, r230_66, r230_67, r230_70, r230_71, r230_74, r230_77, r230_78, r230_81, mh_o h, mh_put h, pm_1, pm_0, gm_22, e22, WPo_some, List.getElem?_cons_succ, List.getElem?_cons_zero, kil_n, kil_i, kil_a, kil_u, kil_l, Option.toList_some, Option.toList_none, List.cons_append, List.nil_append, List.set_cons_succ, List.set_cons_zero, addm1, Nat.reduceAdd, List.length_cons, List.length_nil, Nat.reduceLT, q230_16 m_isIn, q230_38 (m_refuse h) h.ci, h1, b2i_eq0, not_true_eq_false, not_false_eq_true, if_true, if_false, or_self, and_self, true_and, and_true, or_true, true_or, false_or, or_false, false_and, and_false, i64_lt, i64_le, i2l_toInt, Int64.reduceToInt, vu_vu, show ¬ (0 : Int32) ≤ -1 by decide]
    | some q =>
      obtain ⟨t, a, x, k⟩ := q
      obtain ⟨⟨c1, c2, c3, c4⟩, b1, b2, b3, b4⟩ := hc
      have e22 : vu (vu v 1 (.int 0)) 0 (.int 0) 22 = .int (nI t) := c1
      have e23 : vu (vu v 1 (.int 0)) 0 (.int 0) 23 = .int (nI a) := c2
      have e24 : vu (vu v 1 (.int 0)) 0 (.int 0) 24 = .int (nI x) := c3
      have e25 : vu (vu v 1 (.int 0)) 0 (.int 0) 25 = .int (nI k) := c4
      simp (disch := first | assumption | omega | decide | (simp only [List.length_cons, List.length_nil, Nat.reduceAdd, Nat.reduceLT]; done) | fail) only [r230_0, r230_1, r230_2, r230_5, r230_6, r230_7, r230_10, r230_11, r230_12, r230_13, r230_19, r230_22, r230_23, r230_27, r230_28, r230_29, r230_32, r230_35, r230_36, r230_41, r230_42, r230_43, r230_46, r230_47, r230_50, r230_53, r230_54, r230_55, r230_58, r230_59, r230_62, r230_65, r230_66, r230_67, r230_70, r230_71, r230_74, r230_77, r230_78, r230_81, mh_o h, mh_put h, pm_1, pm_0, gm_22, gm_23, gm_24, gm_25, e22, e23, e24, e25, WPo_some, List.getElem?_cons_succ, List.getElem?_cons_zero, kil_n, kil_i, kil_a, kil_u, kil_l, Option.toList_some, Option.toList_none, List.cons_append, List.nil_append, List.set_cons_succ, List.set_cons_zero, addm1, Nat.reduceAdd, List.length_cons, List.length_nil, Nat.reduceLT, q230_16 m_isIn, h1, b2i_eq0, not_true_eq_false, not_false_eq_true, if_true, if_false, or_self, and_self, true_and, and_true, or_true, true_or, false_or, or_false, false_and, and_false, i64_lt, i64_le, i2l_toInt, Int64.reduceToInt, nI_clamp, nI_toInt, nI_leL, nI_Lle, nI_ltL, nI_Llt, nI_eqL, nI_Leq, nI_leE, nI_ltE, nI_eqE, nI_eqM, nI_add, nI_addL, nI_Ladd, nI_mulL, nI_Lmul, pk_mul, pk_sub, nI_subL, nI_Lsub, i2l_nI, Int.toNat_natCast, Nat.not_lt_zero, Nat.zero_le, ifT, ifF]
      by_cases z0 : w = 0
      · simp [z0]
      · by_cases z1 : w = 1
        · simp [z1]
        · by_cases z2 : w = 2
          · simp [z2]
          · simp [z0, z1, z2]
  · simp (disch := first | assumption | omega | decide | (simp only [List.length_cons, List.length_nil, Nat.reduceAdd, Nat.reduceLT]; done) | fail) only [r230_0, r230_1, r230_2, r230_5, r230_6, r230_7, r230_10, r230_11, r230_12, r230_13, r230_19, r230_22, r230_23, r230_27, r230_28, r230_29, r230_32, r230_35, r230_36, r230_41, r230_42, r230_43, r230_46, r230_47, r230_50, r230_53, r230_54, r230_55, r230_58, r230_59, r230_62, r230_65, r230_66, r230_67, r230_70, r230_71, r230_74, r230_77, r230_78, r230_81, mh_o h, mh_put h, pm_1, pm_0, WPo_some, List.getElem?_cons_succ, List.getElem?_cons_zero, kil_n, kil_i, kil_a, kil_u, kil_l, Option.toList_some, Option.toList_none, List.cons_append, List.nil_append, List.set_cons_succ, List.set_cons_zero, addm1, Nat.reduceAdd, List.length_cons, List.length_nil, Nat.reduceLT, q230_16 m_isIn, q230_24 (m_refuse h) h.ci, h1, b2i_eq0, not_true_eq_false, not_false_eq_true, if_true, if_false, or_self, and_self, true_and, and_true, or_true, true_or, false_or, or_false, false_and, and_false, i64_lt, i64_le, i2l_toInt, Int64.reduceToInt, vu_vu]
end EXM3

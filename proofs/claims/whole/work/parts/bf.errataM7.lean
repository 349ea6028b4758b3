/-! Errata of the model: the whole search -/
section MES
variable {E : aEnv} {c m : Nat} {ah : aHp} {ma : Nat → Nat} {v : Nat → Value} {ai : Nat → Nat → Int32} {al : Nat → Nat → Int64} {n k b : Nat} {sr : Nat → Int32} {mn : Nat → Nat} {tn : Nat → Nat → Int64} {V : Nat → Nat}
/-- what stays as it was -/
noncomputable def frG (v v' : Nat → Value) (ai ai' : Nat → Nat → Int32) (al al' : Nat → Nat → Int64) : Prop := (∀ q, q ≠ 0 → q ≠ 74 → v' q = v q) ∧ (∀ q, ¬ (q = 73 ∨ q = 75 ∨ q = 76 ∨ q = 97 ∨ q = 98) → ai' q = ai q) ∧ ∀ q, ¬ (70 ≤ q ∧ q ≤ 72) → al' q = al q
theorem m_search (h : MO E ah m ma) (h1 : 1 ≤ k) (h4 : k ≤ 4) (hn : n ≤ 20) (hkn : k < n) (hb : b ≤ 1000) (hL : mrL n V ai al) {l1 l6 l7 : Option Value} {l5 : Int32} (hv0 : v 0 = .int 0) : ∃ r v' ai' al', WP E (c + 3) 270 177 [some (.ref m), l1, some (.int (nI n)), some (.int (nI k)), some (.int (nI b)), some (.int l5), l6, l7] [] (mh E ah m ma v ai al) (fun r1 x => r1 = some (.int r) ∧ x = mh E ah m ma v' ai' al') ∧ erB n k b V v v' ai ai' r ∧ v' 0 = .int (if r = -1 then 8 else 0) ∧ frG v v' ai ai' al al' := by
  have hV : ∀ q, q < n → V q ≤ 99999999 := fun q hq => (hL.1 q hq).2
  have hT : ∀ q, q < n → al 70 q = iL (vI V q) := fun q hq => (hL.1 q hq).1
  obtain ⟨rs, Ls, ks, hs⟩ := m_isSmooth (E := E) (c := c + 1) (v := v) (ai := ai) (al := al) (W := vI V) h h1 hn hkn hb hT (df_rg h1 h4 (fun q hq => by have := hV q hq; show 0 ≤ (V q : Int) ∧ (V q : Int) ≤ 99999999; omega))
  have ks : EV E (c + 2) 265 [.ref m, .int (nI n), .int (nI k), .int (nI b)] (mh E ah m ma v ai al) (some (.int rs)) (mh E ah m ma v ai (lu al 71 Ls)) := ks
  -- once something is found the loops end
  have done2 : ∀ (r : Nat), r ≤ 2 → ∀ ai' al' l1 l6 l7 (Q : Option Value → aHp → Prop), WP E (c + 3) 270 293 [some (.ref m), l1, some (.int (nI n)), some (.int (nI k)), some (.int (nI b)), some (.int (nI r)), some (.int (nI l6)), l7] [] (mh E ah m ma v ai' al') Q → l6 ≤ n → WP E (c + 3) 270 235 [some (.ref m), l1, some (.int (nI n)), some (.int (nI k)), some (.int (nI b)), some (.int (nI r)), some (.int (nI l6)), l7] [] (mh E ah m ma v ai' al') Q := by
    intro r hr ai' al' l1 l6 l7 Q w hl
    have n0 : (0 : Int32) ≤ nI r := by rw [show (0 : Int32) = nI 0 from rfl, nI_leE (by decide) (by omega)]; omega
    rw [r270_235]
    by_cases y : n ≤ l6
    · simp (disch := first | assumption | omega | decide | (simp only [List.length_cons, List.length_nil, Nat.reduceAdd, Nat.reduceLT]; done) | fail) only [r270_237, r270_238, y, WPo_some, List.getElem?_cons_succ, List.getElem?_cons_zero, kil_n, kil_i, kil_a, kil_u, kil_l, Option.toList_some, Option.toList_none, List.cons_append, List.nil_append, List.set_cons_succ, List.set_cons_zero, addm1, Nat.reduceAdd, List.length_cons, List.length_nil, Nat.reduceLT, nI_clamp, nI_toInt, nI_leL, nI_Lle, nI_ltL, nI_Llt, nI_eqL, nI_Leq, nI_leE, nI_ltE, nI_eqE, nI_eqM, nI_add, nI_addL, nI_Ladd, nI_mulL, nI_Lmul, pk_mul, pk_sub, nI_subL, nI_Lsub, i2l_nI, Int.toNat_natCast, Nat.not_lt_zero, Nat.zero_le, ifT, ifF, not_true_eq_false, not_false_eq_true, if_true, if_false, or_self, and_self, true_and, and_true, or_true, true_or, false_or, or_false, false_and, and_false]
      exact w
    · simp (disch := first | assumption | omega | decide | (simp only [List.length_cons, List.length_nil, Nat.reduceAdd, Nat.reduceLT]; done) | fail) only [r270_237, r270_238, r270_241, r270_243, y, n0, nI_clamp, nI_leE, nI_ltE, ifT, ifF, WPo_some, List.getElem?_cons_succ, List.getElem?_cons_zero, kil_n, kil_i, kil_a, kil_u, kil_l, Option.toList_some, Option.toList_none, List.cons_append, List.nil_append, List.set_cons_succ, List.set_cons_zero, addm1, Nat.reduceAdd, List.length_cons, List.length_nil, Nat.reduceLT, not_true_eq_false, not_false_eq_true, if_true, if_false, or_self, and_self, true_and, and_true, or_true, true_or, false_or, or_false, false_and, and_false]
      exact w
  have done1 : ∀ (r : Nat), r ≤ 2 → ∀ ai' al' l1 l6 l7 (Q : Option Value → aHp → Prop), WP E (c + 3) 270 293 [some (.ref m), l1, some (.int (nI n)), some (.int (nI k)), some (.int (nI b)), some (.int (nI r)), some (.int (nI 0)), l7] [] (mh E ah m ma v ai' al') Q → l6 ≤ n → WP E (c + 3) 270 197 [some (.ref m), l1, some (.int (nI n)), some (.int (nI k)), some (.int (nI b)), some (.int (nI r)), some (.int (nI l6)), l7] [] (mh E ah m ma v ai' al') Q := by
    intro r hr ai' al' l1 l6 l7 Q w hl
    have n0 : (0 : Int32) ≤ nI r := by rw [show (0 : Int32) = nI 0 from rfl, nI_leE (by decide) (by omega)]; omega
    have d := done2 r hr ai' al' l1 0 l7 Q w (Nat.zero_le _)
    rw [show nI 0 = (0 : Int32) from rfl] at d
    rw [r270_197]
    by_cases y : n ≤ l6
    · simp (disch := first | assumption | omega | decide | (simp only [List.length_cons, List.length_nil, Nat.reduceAdd, Nat.reduceLT]; done) | fail) only [r270_199, r270_200, r270_232, r270_233, y, WPo_some, List.getElem?_cons_succ, List.getElem?_cons_zero, kil_n, kil_i, kil_a, kil_u, kil_l, Option.toList_some, Option.toList_none, List.cons_append, List.nil_append, List.set_cons_succ, List.set_cons_zero, addm1, Nat.reduceAdd, List.length_cons, List.length_nil, Nat.reduceLT, nI_clamp, nI_toInt, nI_leL, nI_Lle, nI_ltL, nI_Llt, nI_eqL, nI_Leq, nI_leE, nI_ltE, nI_eqE, nI_eqM, nI_add, nI_addL, nI_Ladd, nI_mulL, nI_Lmul, pk_mul, pk_sub, nI_subL, nI_Lsub, i2l_nI, Int.toNat_natCast, Nat.not_lt_zero, Nat.zero_le, ifT, ifF, not_true_eq_false, not_false_eq_true, if_true, if_false, or_self, and_self, true_and, and_true, or_true, true_or, false_or, or_false, false_and, and_false]
      exact d
    · simp (disch := first | assumption | omega | decide | (simp only [List.length_cons, List.length_nil, Nat.reduceAdd, Nat.reduceLT]; done) | fail) only [r270_199, r270_200, r270_203, r270_205, r270_232, r270_233, y, n0, nI_clamp, nI_leE, nI_ltE, ifT, ifF, WPo_some, List.getElem?_cons_succ, List.getElem?_cons_zero, kil_n, kil_i, kil_a, kil_u, kil_l, Option.toList_some, Option.toList_none, List.cons_append, List.nil_append, List.set_cons_succ, List.set_cons_zero, addm1, Nat.reduceAdd, List.length_cons, List.length_nil, Nat.reduceLT, not_true_eq_false, not_false_eq_true, if_true, if_false, or_self, and_self, true_and, and_true, or_true, true_or, false_or, or_false, false_and, and_false]
      exact d
  rcases hs with ⟨e1, hsm⟩ | ⟨e1, hsm⟩
  · subst e1
    obtain ⟨f, g, w, -⟩ := l_emF (E := E) (c := c + 2) (v := v) (ai := ai) (al := lu al 71 Ls) h (r := 0) (by decide) (l1 := l1) (l2 := some (.int (nI n))) (l3 := some (.int (nI k))) (l4 := nI b) (l6 := some (.int (nI 0))) (l7 := l7)
    refine ⟨0, vu v 74 (.int (nI 0)), iu (iu ai 97 f) 98 g, lu al 71 Ls, ?_, Or.inl ⟨rfl, hsm, vu_at⟩, by rw [vu_ne (by decide), if_neg (by decide)]; exact hv0, fun q q1 q2 => vu_ne q2, fun q hq => by rw [iu_ne (by omega), iu_ne (by omega)], fun q hq => lu_ne (by omega)⟩
    have d := done1 0 (by decide) ai (lu al 71 Ls) l1 0 l7 _ w (Nat.zero_le _)
    rw [show nI 0 = (0 : Int32) from rfl] at d ⊢
    simp (disch := first | assumption | omega | decide | (simp only [List.length_cons, List.length_nil, Nat.reduceAdd, Nat.reduceLT]; done) | fail) only [r270_177, r270_178, r270_180, r270_181, r270_182, r270_183, r270_188, r270_191, r270_192, r270_194, r270_195, q270_185 ks h.ci, WPo_some, List.getElem?_cons_succ, List.getElem?_cons_zero, kil_n, kil_i, kil_a, kil_u, kil_l, Option.toList_some, Option.toList_none, List.cons_append, List.nil_append, List.set_cons_succ, List.set_cons_zero, addm1, Nat.reduceAdd, List.length_cons, List.length_nil, Nat.reduceLT, not_true_eq_false, not_false_eq_true, if_true, if_false, or_self, and_self, true_and, and_true, or_true, true_or, false_or, or_false, false_and, and_false, show ¬ (1 : Int32) = 0 by decide]
    exact d
  · subst e1
    -- two at once
    have two : ∀ l7 al1, mrL n V ai al1 → (∀ q, ¬ (70 ≤ q ∧ q ≤ 72) → al1 q = al q) → (∀ i x, ¬ P1 n k b V i x) → ∃ r v' ai' al', WP E (c + 3) 270 235 [some (.ref m), l1, some (.int (nI n)), some (.int (nI k)), some (.int (nI b)), some (.int (-1)), some (.int (nI 0)), l7] [] (mh E ah m ma v ai al1) (fun r1 x => r1 = some (.int r) ∧ x = mh E ah m ma v' ai' al') ∧ erB n k b V v v' ai ai' r ∧ v' 0 = .int (if r = -1 then 8 else 0) ∧ frG v v' ai ai' al al' := by
      intro l7 al1 hL1 ha1 hno1
      let P : Option Value → aHp → Prop := fun r1 x => ∃ r v' ai' al', r1 = some (.int r) ∧ x = mh E ah m ma v' ai' al' ∧ erB n k b V v v' ai ai' r ∧ v' 0 = .int (if r = -1 then 8 else 0) ∧ frG v v' ai ai' al al'
      have outer : ∀ z i l7 al1, i + z = n → mrL n V ai al1 → (∀ q, ¬ (70 ≤ q ∧ q ≤ 72) → al1 q = al q) → (∀ i' j x y, i' < i → ¬ P2 n k b V i' j x y) → WP E (c + 3) 270 235 [some (.ref m), l1, some (.int (nI n)), some (.int (nI k)), some (.int (nI b)), some (.int (-1)), some (.int (nI i)), l7] [] (mh E ah m ma v ai al1) P := by
        intro z
        induction z with
        | zero =>
          intro i l7 al1 hz hL1 ha1 hq
          rw [r270_235]
          simp (disch := first | assumption | omega | decide | (simp only [List.length_cons, List.length_nil, Nat.reduceAdd, Nat.reduceLT]; done) | fail) only [r270_237, r270_238, r270_293, r270_295, r270_298, r270_299, r270_304, show n ≤ i by omega, q270_301 (m_refuse h) h.ci, WPo_some, List.getElem?_cons_succ, List.getElem?_cons_zero, kil_n, kil_i, kil_a, kil_u, kil_l, Option.toList_some, Option.toList_none, List.cons_append, List.nil_append, List.set_cons_succ, List.set_cons_zero, addm1, Nat.reduceAdd, List.length_cons, List.length_nil, Nat.reduceLT, nI_clamp, nI_toInt, nI_leL, nI_Lle, nI_ltL, nI_Llt, nI_eqL, nI_Leq, nI_leE, nI_ltE, nI_eqE, nI_eqM, nI_add, nI_addL, nI_Ladd, nI_mulL, nI_Lmul, pk_mul, pk_sub, nI_subL, nI_Lsub, i2l_nI, Int.toNat_natCast, Nat.not_lt_zero, Nat.zero_le, ifT, ifF, not_true_eq_false, not_false_eq_true, if_true, if_false, or_self, and_self, true_and, and_true, or_true, true_or, false_or, or_false, false_and, and_false, show ¬ (0 : Int32) ≤ -1 by decide]
          exact ⟨-1, vu v 0 (.int 8), ai, al1, rfl, rfl, Or.inr (Or.inr (Or.inr ⟨rfl, hsm, hno1, fun i' j x y hP => hq i' j x y (by have := hP.1; have := hP.2.1; omega) hP, vu_ne (by decide), rfl, rfl⟩)), by rw [vu_at, if_pos rfl], fun q q1 q2 => vu_ne q1, fun _ _ => rfl, ha1⟩
        | succ z ih =>
          intro i l7 al1 hz hL1 ha1 hq
          have inner : ∀ zj j al1, j + zj = n → i < j → mrL n V ai al1 → (∀ q, ¬ (70 ≤ q ∧ q ≤ 72) → al1 q = al q) → (∀ j' x y, j' < j → ¬ P2 n k b V i j' x y) → WP E (c + 3) 270 252 [some (.ref m), l1, some (.int (nI n)), some (.int (nI k)), some (.int (nI b)), some (.int (-1)), some (.int (nI i)), some (.int (nI j))] [] (mh E ah m ma v ai al1) P := by
            intro zj
            induction zj with
            | zero =>
              intro j al1 hzj hij hL1 ha1 hqj
              have ih := ih (i + 1) (some (.int (nI j))) al1 (by omega) hL1 ha1 (fun i' j' x y q1 => by
                by_cases e : i' = i
                · rw [e]
                  exact fun hP => hqj j' x y (by have := hP.2.1; omega) hP
                · exact hq i' j' x y (by omega))
              rw [r270_252]
              simp (disch := first | assumption | omega | decide | (simp only [List.length_cons, List.length_nil, Nat.reduceAdd, Nat.reduceLT]; done) | fail) only [r270_254, r270_255, r270_287, r270_290, show n ≤ j by omega, WPo_some, List.getElem?_cons_succ, List.getElem?_cons_zero, kil_n, kil_i, kil_a, kil_u, kil_l, Option.toList_some, Option.toList_none, List.cons_append, List.nil_append, List.set_cons_succ, List.set_cons_zero, addm1, Nat.reduceAdd, List.length_cons, List.length_nil, Nat.reduceLT, nI_clamp, nI_toInt, nI_leL, nI_Lle, nI_ltL, nI_Llt, nI_eqL, nI_Leq, nI_leE, nI_ltE, nI_eqE, nI_eqM, nI_add, nI_addL, nI_Ladd, nI_mulL, nI_Lmul, pk_mul, pk_sub, nI_subL, nI_Lsub, i2l_nI, Int.toNat_natCast, Nat.not_lt_zero, Nat.zero_le, ifT, ifF, not_true_eq_false, not_false_eq_true, if_true, if_false, or_self, and_self, true_and, and_true, or_true, true_or, false_or, or_false, false_and, and_false]
              exact ih
            | succ zj ihj =>
              intro j al1 hzj hij hL1 ha1 hqj
              have hj : j < n := by omega
              obtain ⟨r, ai', al', kc, F, hc⟩ := m_corr2 (E := E) (c := c) (v := v) h h1 h4 hn hkn hb hL1 hij hj
              rcases hc with ⟨e1, x, y, p1, p2, p3, p4, p5, p6⟩ | ⟨e1, e2, e3, e4⟩
              · subst e1
                obtain ⟨f, g, w, f0, f1, g0, g1⟩ := l_emF (E := E) (c := c + 2) (v := v) (ai := ai') (al := al') h (r := 2) (by decide) (l1 := l1) (l2 := some (.int (nI n))) (l3 := some (.int (nI k))) (l4 := nI b) (l6 := some (.int (nI (i + 1)))) (l7 := some (.int (nI (j + 1))))
                have w' := WP.mono w (Q' := P) (by
                  rintro r1 y' ⟨q1, q2⟩
                  refine ⟨nI 2, _, _, _, q1, q2, Or.inr (Or.inr (Or.inl ⟨rfl, hsm, hno1, vu_at, i, j, x, y, ?_, ?_, ?_, ?_, p5, fun i' j' x' y' hP => ?_⟩)), ?_, fun q q1 q2 => vu_ne q2, fun q hq => ?_, fun q hq => ?_⟩
                  · rw [iu_ne (by decide), iu_at, f0, p1]
                  · rw [iu_at, g0, p2]
                  · rw [iu_ne (by decide), iu_at, f1, p3]
                  · rw [iu_at, g1, p4]
                  · by_cases w1 : i' < i
                    · exact absurd hP (hq i' j' x' y' w1)
                    · by_cases w2 : i' = i
                      · subst w2
                        refine Or.inr ⟨rfl, ?_⟩
                        by_cases w3 : j' < j
                        · exact absurd hP (hqj j' x' y' w3)
                        · by_cases w4 : j' = j
                          · subst w4
                            exact Or.inr ⟨rfl, p6 x' y' hP⟩
                          · exact Or.inl (by omega)
                      · exact Or.inl (by omega)
                  · rw [vu_ne (by decide), if_neg (by decide)]; exact hv0
                  · rw [iu_ne (by omega), iu_ne (by omega)]; exact F.1 q (by omega) (by omega)
                  · rw [F.2 q (by omega) (by omega)]; exact ha1 q hq)
                have n2 : (0 : Int32) ≤ 2 := by decide
                have d := done2 2 (by decide) ai' al' l1 (i + 1) (some (.int (nI (j + 1)))) P w' (by omega)
                have fl : WP E (c + 3) 270 252 [some (.ref m), l1, some (.int (nI n)), some (.int (nI k)), some (.int (nI b)), some (.int 2), some (.int (nI i)), some (.int (nI (j + 1)))] [] (mh E ah m ma v ai' al') P := by
                  rw [r270_252]
                  rw [show nI 2 = (2 : Int32) from rfl] at d
                  by_cases yj : n ≤ j + 1
                  · simp (disch := first | assumption | omega | decide | (simp only [List.length_cons, List.length_nil, Nat.reduceAdd, Nat.reduceLT]; done) | fail) only [r270_254, r270_255, r270_287, r270_290, yj, WPo_some, List.getElem?_cons_succ, List.getElem?_cons_zero, kil_n, kil_i, kil_a, kil_u, kil_l, Option.toList_some, Option.toList_none, List.cons_append, List.nil_append, List.set_cons_succ, List.set_cons_zero, addm1, Nat.reduceAdd, List.length_cons, List.length_nil, Nat.reduceLT, nI_clamp, nI_toInt, nI_leL, nI_Lle, nI_ltL, nI_Llt, nI_eqL, nI_Leq, nI_leE, nI_ltE, nI_eqE, nI_eqM, nI_add, nI_addL, nI_Ladd, nI_mulL, nI_Lmul, pk_mul, pk_sub, nI_subL, nI_Lsub, i2l_nI, Int.toNat_natCast, Nat.not_lt_zero, Nat.zero_le, ifT, ifF, not_true_eq_false, not_false_eq_true, if_true, if_false, or_self, and_self, true_and, and_true, or_true, true_or, false_or, or_false, false_and, and_false]
                    exact d
                  · simp (disch := first | assumption | omega | decide | (simp only [List.length_cons, List.length_nil, Nat.reduceAdd, Nat.reduceLT]; done) | fail) only [r270_254, r270_255, r270_258, r270_260, r270_287, r270_290, yj, n2, nI_clamp, nI_leE, nI_ltE, nI_addL, ifT, ifF, WPo_some, List.getElem?_cons_succ, List.getElem?_cons_zero, kil_n, kil_i, kil_a, kil_u, kil_l, Option.toList_some, Option.toList_none, List.cons_append, List.nil_append, List.set_cons_succ, List.set_cons_zero, addm1, Nat.reduceAdd, List.length_cons, List.length_nil, Nat.reduceLT, not_true_eq_false, not_false_eq_true, if_true, if_false, or_self, and_self, true_and, and_true, or_true, true_or, false_or, or_false, false_and, and_false]
                    exact d
                rw [r270_252]
                simp (disch := first | assumption | omega | decide | (simp only [List.length_cons, List.length_nil, Nat.reduceAdd, Nat.reduceLT]; done) | fail) only [r270_254, r270_255, r270_258, r270_260, r270_263, r270_264, r270_265, r270_266, r270_268, r270_270, r270_275, r270_278, r270_279, r270_281, r270_284, show ¬ n ≤ j by omega, q270_272 kc h.ci, nI_clamp, nI_leE, nI_ltE, nI_addL, ifT, ifF, WPo_some, List.getElem?_cons_succ, List.getElem?_cons_zero, kil_n, kil_i, kil_a, kil_u, kil_l, Option.toList_some, Option.toList_none, List.cons_append, List.nil_append, List.set_cons_succ, List.set_cons_zero, addm1, Nat.reduceAdd, List.length_cons, List.length_nil, Nat.reduceLT, not_true_eq_false, not_false_eq_true, if_true, if_false, or_self, and_self, true_and, and_true, or_true, true_or, false_or, or_false, false_and, and_false, show ¬ (0 : Int32) ≤ -1 by decide, show ¬ (1 : Int32) = 0 by decide]
                exact fl
              · subst e1 e2
                have ihj := ihj (j + 1) al' (by omega) (by omega) (mrL_fr hL1 e3 (F.2 72 (by decide) (by decide)) rfl) (fun q hq => by rw [F.2 q (by omega) (by omega)]; exact ha1 q hq) (fun j' x y q1 => by
                  by_cases e : j' = j
                  · rw [e]; exact e4 x y
                  · exact hqj j' x y (by omega))
                rw [r270_252]
                simp (disch := first | assumption | omega | decide | (simp only [List.length_cons, List.length_nil, Nat.reduceAdd, Nat.reduceLT]; done) | fail) only [r270_254, r270_255, r270_258, r270_260, r270_263, r270_264, r270_265, r270_266, r270_268, r270_270, r270_275, r270_278, r270_279, r270_281, r270_284, show ¬ n ≤ j by omega, q270_272 kc h.ci, nI_clamp, nI_leE, nI_ltE, nI_addL, ifT, ifF, WPo_some, List.getElem?_cons_succ, List.getElem?_cons_zero, kil_n, kil_i, kil_a, kil_u, kil_l, Option.toList_some, Option.toList_none, List.cons_append, List.nil_append, List.set_cons_succ, List.set_cons_zero, addm1, Nat.reduceAdd, List.length_cons, List.length_nil, Nat.reduceLT, not_true_eq_false, not_false_eq_true, if_true, if_false, or_self, and_self, true_and, and_true, or_true, true_or, false_or, or_false, false_and, and_false, show ¬ (0 : Int32) ≤ -1 by decide]
                exact ihj
          have l := inner (n - (i + 1)) (i + 1) al1 (by omega) (by omega) hL1 ha1 (fun j' x y q1 hP => by have := hP.1; omega)
          rw [r270_235]
          simp (disch := first | assumption | omega | decide | (simp only [List.length_cons, List.length_nil, Nat.reduceAdd, Nat.reduceLT]; done) | fail) only [r270_237, r270_238, r270_241, r270_243, r270_246, r270_248, r270_249, r270_250, show ¬ n ≤ i by omega, nI_clamp, nI_leE, nI_ltE, nI_addL, ifT, ifF, WPo_some, List.getElem?_cons_succ, List.getElem?_cons_zero, kil_n, kil_i, kil_a, kil_u, kil_l, Option.toList_some, Option.toList_none, List.cons_append, List.nil_append, List.set_cons_succ, List.set_cons_zero, addm1, Nat.reduceAdd, List.length_cons, List.length_nil, Nat.reduceLT, not_true_eq_false, not_false_eq_true, if_true, if_false, or_self, and_self, true_and, and_true, or_true, true_or, false_or, or_false, false_and, and_false, show ¬ (0 : Int32) ≤ -1 by decide]
          exact l
      obtain ⟨r1, x1, ⟨r, v', ai', al', e1, e2, e3, e4, e5⟩, w⟩ := WP.ex (outer n 0 l7 al1 (by omega) hL1 ha1 (fun i' j x y q1 => absurd q1 (by omega)))
      subst e1 e2
      exact ⟨r, v', ai', al', w, e3, e4, e5⟩
    -- one
    let P : Option Value → aHp → Prop := fun r1 x => ∃ r v' ai' al', r1 = some (.int r) ∧ x = mh E ah m ma v' ai' al' ∧ erB n k b V v v' ai ai' r ∧ v' 0 = .int (if r = -1 then 8 else 0) ∧ frG v v' ai ai' al al'
    have one : ∀ z i al1, i + z = n → mrL n V ai al1 → (∀ q, ¬ (70 ≤ q ∧ q ≤ 72) → al1 q = al q) → (∀ i' x, i' < i → ¬ P1 n k b V i' x) → WP E (c + 3) 270 197 [some (.ref m), l1, some (.int (nI n)), some (.int (nI k)), some (.int (nI b)), some (.int (-1)), some (.int (nI i)), l7] [] (mh E ah m ma v ai al1) P := by
      intro z
      induction z with
      | zero =>
        intro i al1 hz hL1 ha1 hq
        obtain ⟨r, v', ai', al', w, e3, e4, e5⟩ := two l7 al1 hL1 ha1 (fun i' x hP => hq i' x (by have := hP.1; omega) hP)
        have w' := WP.mono w (Q' := P) (by
          rintro r1 y ⟨q1, q2⟩
          exact ⟨r, v', ai', al', q1, q2, e3, e4, e5⟩)
        rw [show nI 0 = (0 : Int32) from rfl] at w'
        rw [r270_197]
        simp (disch := first | assumption | omega | decide | (simp only [List.length_cons, List.length_nil, Nat.reduceAdd, Nat.reduceLT]; done) | fail) only [r270_199, r270_200, r270_232, r270_233, show n ≤ i by omega, WPo_some, List.getElem?_cons_succ, List.getElem?_cons_zero, kil_n, kil_i, kil_a, kil_u, kil_l, Option.toList_some, Option.toList_none, List.cons_append, List.nil_append, List.set_cons_succ, List.set_cons_zero, addm1, Nat.reduceAdd, List.length_cons, List.length_nil, Nat.reduceLT, nI_clamp, nI_toInt, nI_leL, nI_Lle, nI_ltL, nI_Llt, nI_eqL, nI_Leq, nI_leE, nI_ltE, nI_eqE, nI_eqM, nI_add, nI_addL, nI_Ladd, nI_mulL, nI_Lmul, pk_mul, pk_sub, nI_subL, nI_Lsub, i2l_nI, Int.toNat_natCast, Nat.not_lt_zero, Nat.zero_le, ifT, ifF, not_true_eq_false, not_false_eq_true, if_true, if_false, or_self, and_self, true_and, and_true, or_true, true_or, false_or, or_false, false_and, and_false]
        exact w'
      | succ z ih =>
        intro i al1 hz hL1 ha1 hq
        have hi : i < n := by omega
        obtain ⟨r, ai', al', kc, F, hc⟩ := m_corr1 (E := E) (c := c) (v := v) h h1 h4 hn hkn hb hL1 hi
        rcases hc with ⟨e1, x, p1, p2, p3, p4, p5⟩ | ⟨e1, e2, e3, e4⟩
        · subst e1
          obtain ⟨f, g, w, f0, f1, g0, g1⟩ := l_emF (E := E) (c := c + 2) (v := v) (ai := ai') (al := al') h (r := 1) (by decide) (l1 := l1) (l2 := some (.int (nI n))) (l3 := some (.int (nI k))) (l4 := nI b) (l6 := some (.int (nI 0))) (l7 := l7)
          have w' := WP.mono w (Q' := P) (by
            rintro r1 y' ⟨q1, q2⟩
            refine ⟨nI 1, _, _, _, q1, q2, Or.inr (Or.inl ⟨rfl, hsm, vu_at, i, x, ?_, ?_, ⟨hi, p3, p4⟩, fun i' x' hP => ?_⟩), ?_, fun q q1 q2 => vu_ne q2, fun q hq => ?_, fun q hq => ?_⟩
            · rw [iu_ne (by decide), iu_at, f0, p1]
            · rw [iu_at, g0, p2]
            · by_cases w1 : i' < i
              · exact absurd hP (hq i' x' w1)
              · by_cases w2 : i' = i
                · subst w2
                  exact Or.inr ⟨rfl, p5 x' hP.2.1 hP.2.2⟩
                · exact Or.inl (by omega)
            · rw [vu_ne (by decide), if_neg (by decide)]; exact hv0
            · rw [iu_ne (by omega), iu_ne (by omega)]; exact F.1 q (by omega) (by omega)
            · rw [F.2 q (by omega) (by omega)]; exact ha1 q hq)
          have d := done1 1 (by decide) ai' al' l1 (i + 1) l7 P w' (by omega)
          rw [show nI 1 = (1 : Int32) from rfl] at d
          rw [r270_197]
          simp (disch := first | assumption | omega | decide | (simp only [List.length_cons, List.length_nil, Nat.reduceAdd, Nat.reduceLT]; done) | fail) only [r270_199, r270_200, r270_203, r270_205, r270_208, r270_209, r270_210, r270_211, r270_213, r270_215, r270_220, r270_223, r270_224, r270_226, r270_229, show ¬ n ≤ i by omega, q270_217 kc h.ci, nI_clamp, nI_leE, nI_ltE, nI_addL, ifT, ifF, WPo_some, List.getElem?_cons_succ, List.getElem?_cons_zero, kil_n, kil_i, kil_a, kil_u, kil_l, Option.toList_some, Option.toList_none, List.cons_append, List.nil_append, List.set_cons_succ, List.set_cons_zero, addm1, Nat.reduceAdd, List.length_cons, List.length_nil, Nat.reduceLT, not_true_eq_false, not_false_eq_true, if_true, if_false, or_self, and_self, true_and, and_true, or_true, true_or, false_or, or_false, false_and, and_false, show ¬ (0 : Int32) ≤ -1 by decide, show ¬ (1 : Int32) = 0 by decide]
          exact d
        · subst e1 e2
          have ih := ih (i + 1) al' (by omega) (mrL_fr hL1 e3 (F.2 72 (by decide) (by decide)) rfl) (fun q hq => by rw [F.2 q (by omega) (by omega)]; exact ha1 q hq) (fun i' x q1 => by
            by_cases e : i' = i
            · rw [e]
              exact fun hP => e4 x hP.2.1 hP.2.2
            · exact hq i' x (by omega))
          rw [r270_197]
          simp (disch := first | assumption | omega | decide | (simp only [List.length_cons, List.length_nil, Nat.reduceAdd, Nat.reduceLT]; done) | fail) only [r270_199, r270_200, r270_203, r270_205, r270_208, r270_209, r270_210, r270_211, r270_213, r270_215, r270_220, r270_223, r270_224, r270_226, r270_229, show ¬ n ≤ i by omega, q270_217 kc h.ci, nI_clamp, nI_leE, nI_ltE, nI_addL, ifT, ifF, WPo_some, List.getElem?_cons_succ, List.getElem?_cons_zero, kil_n, kil_i, kil_a, kil_u, kil_l, Option.toList_some, Option.toList_none, List.cons_append, List.nil_append, List.set_cons_succ, List.set_cons_zero, addm1, Nat.reduceAdd, List.length_cons, List.length_nil, Nat.reduceLT, not_true_eq_false, not_false_eq_true, if_true, if_false, or_self, and_self, true_and, and_true, or_true, true_or, false_or, or_false, false_and, and_false, show ¬ (0 : Int32) ≤ -1 by decide]
          exact ih
    have l := one n 0 (lu al 71 Ls) (by omega) (mrL_fr hL (lu_ne (by decide)) (lu_ne (by decide)) rfl) (fun q hq => lu_ne (by omega)) (fun i' x q1 => absurd q1 (by omega))
    obtain ⟨r1, x1, ⟨r, v', ai', al', e1, e2, e3, e4, e5⟩, w⟩ := WP.ex l
    subst e1 e2
    refine ⟨r, v', ai', al', ?_, e3, e4, e5⟩
    rw [show nI 0 = (0 : Int32) from rfl] at w
    simp (disch := first | assumption | omega | decide | (simp only [List.length_cons, List.length_nil, Nat.reduceAdd, Nat.reduceLT]; done) | fail) only [r270_177, r270_178, r270_180, r270_181, r270_182, r270_183, r270_188, r270_191, r270_192, r270_194, r270_195, q270_185 ks h.ci, WPo_some, List.getElem?_cons_succ, List.getElem?_cons_zero, kil_n, kil_i, kil_a, kil_u, kil_l, Option.toList_some, Option.toList_none, List.cons_append, List.nil_append, List.set_cons_succ, List.set_cons_zero, addm1, Nat.reduceAdd, List.length_cons, List.length_nil, Nat.reduceLT, not_true_eq_false, not_false_eq_true, if_true, if_false, or_self, and_self, true_and, and_true, or_true, true_or, false_or, or_false, false_and, and_false]
    exact w
end MES

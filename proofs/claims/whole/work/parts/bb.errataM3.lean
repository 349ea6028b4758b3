/-! Errata of the model: all variants of a value -/
theorem opW_33 {v p : Nat} (hv : v ≤ 99999999) (hp : p < 7) : (nI v + (nI (fgN v (p + 1)) - nI (fgN v p)) * nI (10 ^ p) + (nI (fgN v p) - nI (fgN v (p + 1))) * nI (10 ^ p) * 10 : Int32).toInt = opW v p := by
  have r := op_rg2 hv hp
  have e : (nI v + (nI (fgN v (p + 1)) - nI (fgN v p)) * nI (10 ^ p) + (nI (fgN v p) - nI (fgN v (p + 1))) * nI (10 ^ p) * 10 : Int32) = jI (opW v p) := by
    rw [show (10 : Int32) = jI 10 from rfl, jI_n, jI_n, jI_n, jI_n, jI_sub, jI_sub, jI_mul, jI_mul, jI_mul, jI_add, jI_add]
    unfold opW
    congr 1
    rw [Int.pow_succ, ← Int.mul_assoc]
    try simp
  rw [e]
  unfold opW
  exact jI_toInt (by omega) (by omega)
section MCO
variable {E : aEnv} {c m : Nat} {ah : aHp} {ma : Nat → Nat} {v : Nat → Value} {V : Nat → Nat}
/-- only the row of i has changed -/
noncomputable def frVa (i : Nat) (f f' : Nat → Int32) (G G' : Nat → Int64) : Prop := (∀ q, q ≠ i → f' q = f q) ∧ ∀ p, ¬ (80 * i ≤ p ∧ p < 80 * i + 80) → G' p = G p
theorem frVa_tr {i : Nat} {a b d : Nat → Int32} {x y z : Nat → Int64} (h : frVa i a b x y) (g : frVa i b d y z) : frVa i a d x z := ⟨fun q hq => by rw [g.1 q hq, h.1 q hq], fun q hq => by rw [g.2 q hq, h.2 q hq]⟩
theorem fg_up {v p : Nat} : v / 10 ^ p / 10 % 10 = fgN v (p + 1) := by
  unfold fgN
  rw [Nat.div_div_eq_div_mul, Nat.pow_succ]
theorem l_co1 (h : MO E ah m ma) {ai : Nat → Nat → Int32} {al : Nat → Nat → Int64} {i p W : Nat} (hi : i < 20) (hp : p < 8) (hW : W ≤ 99999999) {M : Int → Prop} {Q : Option Value → aHp → Prop} : ∀ z d f G cc, d + z = 10 → f i = nI cc → cc + (if fgN W p < d then 1 else 0) ≤ 10 * p + d → srS (fun q => (G (80 * i + q)).toInt) cc (fun x => aD W p d x ∨ M x) → (∀ f' G' cc', f' i = nI cc' → cc' ≤ 10 * p + 9 → srS (fun q => (G' (80 * i + q)).toInt) cc' (fun x => aD W (p + 1) 0 x ∨ M x) → frVa i f f' G G' → WP E (c + 1) 266 72 [some (.ref m), some (.int (nI i)), some (.int (nI W)), some (.int (nI (10 ^ p))), some (.int (nI p)), some (.int (nI (fgN W p))), some (.int (nI 10))] [] (mh E ah m ma v (iu ai 73 f') (lu al 72 G')) Q) → WP E (c + 1) 266 38 [some (.ref m), some (.int (nI i)), some (.int (nI W)), some (.int (nI (10 ^ p))), some (.int (nI p)), some (.int (nI (fgN W p))), some (.int (nI d))] [] (mh E ah m ma v (iu ai 73 f) (lu al 72 G)) Q
  | 0, d, f, G, cc, hz, h1, h2, h3, K => by
    have f10 := fgN_lt (v := W) (p := p)
    rw [show d = 10 by omega] at h2 h3 ⊢
    rw [if_pos f10] at h2
    have K := K f G cc h1 (by omega) (srS_iff h3 (fun x => or_congr_left aD_up)) ⟨fun _ _ => rfl, fun _ _ => rfl⟩
    rw [r266_38]
    simp (disch := first | assumption | omega | decide | (simp only [List.length_cons, List.length_nil, Nat.reduceAdd, Nat.reduceLT]; done) | fail) only [r266_40, r266_42, WPo_some, List.getElem?_cons_succ, List.getElem?_cons_zero, kil_n, kil_i, kil_a, kil_u, kil_l, Option.toList_some, Option.toList_none, List.cons_append, List.nil_append, List.set_cons_succ, List.set_cons_zero, addm1, Nat.reduceAdd, List.length_cons, List.length_nil, Nat.reduceLT, nI_clamp, nI_toInt, nI_leL, nI_Lle, nI_ltL, nI_Llt, nI_eqL, nI_Leq, nI_leE, nI_ltE, nI_eqE, nI_eqM, nI_add, nI_addL, nI_Ladd, nI_mulL, nI_Lmul, pk_mul, pk_sub, nI_subL, nI_Lsub, i2l_nI, Int.toNat_natCast, Nat.not_lt_zero, Nat.zero_le, ifT, ifF, not_true_eq_false, not_false_eq_true, if_true, if_false, or_self, and_self, true_and, and_true, or_true, true_or, false_or, or_false, false_and, and_false]
    exact K
  | z + 1, d, f, G, cc, hz, h1, h2, h3, K => by
    have f10 := fgN_lt (v := W) (p := p)
    rw [r266_38]
    by_cases y : d = fgN W p
    · have ih := l_co1 h (ai := ai) (al := al) hi hp hW (M := M) (Q := Q) z (d + 1) f G cc (by omega) h1 (by rw [if_pos (by omega)]; rw [if_neg (by omega)] at h2; omega) (srS_iff h3 (fun x => or_congr_left (aD_no y))) K
      simp (disch := first | assumption | omega | decide | (simp only [List.length_cons, List.length_nil, Nat.reduceAdd, Nat.reduceLT]; done) | fail) only [r266_40, r266_42, r266_45, r266_47, r266_49, r266_66, r266_69, eq_true y, WPo_some, List.getElem?_cons_succ, List.getElem?_cons_zero, kil_n, kil_i, kil_a, kil_u, kil_l, Option.toList_some, Option.toList_none, List.cons_append, List.nil_append, List.set_cons_succ, List.set_cons_zero, addm1, Nat.reduceAdd, List.length_cons, List.length_nil, Nat.reduceLT, nI_clamp, nI_toInt, nI_leL, nI_Lle, nI_ltL, nI_Llt, nI_eqL, nI_Leq, nI_leE, nI_ltE, nI_eqE, nI_eqM, nI_add, nI_addL, nI_Ladd, nI_mulL, nI_Lmul, pk_mul, pk_sub, nI_subL, nI_Lsub, i2l_nI, Int.toNat_natCast, Nat.not_lt_zero, Nat.zero_le, ifT, ifF, not_true_eq_false, not_false_eq_true, if_true, if_false, or_self, and_self, true_and, and_true, or_true, true_or, false_or, or_false, false_and, and_false]
      exact ih
    · have c80 : cc < 80 := by split at h2 <;> omega
      obtain ⟨f', G', cc', k, q1, q2, q3, q4, q5⟩ := m_varies (E := E) (c := c) (v := v) (ai := iu ai 73 f) (al := lu al 72 G) h hi (by rw [iu_at]; exact h1) c80 (x := nI W + (nI d - nI (fgN W p)) * nI (10 ^ p)) (M := fun x => aD W p d x ∨ M x) (by rw [lu_at]; exact h3)
      rw [iu_iu, lu_lu] at k
      rw [opD_32 hW hp (by omega)] at q3
      rw [iu_at] at q4
      rw [lu_at] at q5
      have ih := l_co1 h (ai := ai) (al := al) hi hp hW (M := M) (Q := Q) z (d + 1) f' G' cc' (by omega) q1 (by split at h2 <;> split <;> omega) (srS_iff q3 (fun x => by rw [or_right_comm]; exact or_congr_left (aD_st y))) (fun f'' G'' cc'' p1 p2 p3 p4 => K f'' G'' cc'' p1 p2 p3 (frVa_tr ⟨q4, q5⟩ p4))
      have y' : ¬ nI d = nI (fgN W p) := by rw [nI_eqE (by omega) (by omega)]; exact y
      simp (disch := first | assumption | omega | decide | (simp only [List.length_cons, List.length_nil, Nat.reduceAdd, Nat.reduceLT]; done) | fail) only [r266_40, r266_42, r266_45, r266_47, r266_49, r266_52, r266_53, r266_54, r266_55, r266_57, r266_59, r266_60, r266_61, r266_62, r266_66, r266_69, y', y, q266_63 k h.ci, nI_clamp, nI_leL, nI_Lle, nI_ltL, nI_Llt, nI_leE, nI_ltE, nI_eqE, nI_addL, ifT, ifF, Nat.not_lt_zero, Nat.zero_le, WPo_some, List.getElem?_cons_succ, List.getElem?_cons_zero, kil_n, kil_i, kil_a, kil_u, kil_l, Option.toList_some, Option.toList_none, List.cons_append, List.nil_append, List.set_cons_succ, List.set_cons_zero, addm1, Nat.reduceAdd, List.length_cons, List.length_nil, Nat.reduceLT, not_true_eq_false, not_false_eq_true, if_true, if_false, or_self, and_self, true_and, and_true, or_true, true_or, false_or, or_false, false_and, and_false]
      exact ih
theorem l_co2 (h : MO E ah m ma) {ai : Nat → Nat → Int32} {al : Nat → Nat → Int64} {i W : Nat} (hi : i < 20) (hW : W ≤ 99999999) : ∀ z p f G cc l5 l6, p + z = 8 → f i = nI cc → cc ≤ 10 * p → cc ≤ 79 → srS (fun q => (G (80 * i + q)).toInt) cc (fun x => aD W p 0 x ∨ aW W (min p 7) x) → ∃ f' G' cc', WP E (c + 1) 266 20 [some (.ref m), some (.int (nI i)), some (.int (nI W)), some (.int (nI (10 ^ (min p 7)))), some (.int (nI p)), l5, l6] [] (mh E ah m ma v (iu ai 73 f) (lu al 72 G)) (fun r x => r = none ∧ x = mh E ah m ma v (iu ai 73 f') (lu al 72 G')) ∧ f' i = nI cc' ∧ cc' ≤ 79 ∧ srS (fun q => (G' (80 * i + q)).toInt) cc' (opN W) ∧ frVa i f f' G G'
  | 0, p, f, G, cc, l5, l6, hz, h1, h2, h2', h3 => by
    rw [show p = 8 by omega] at h2 h3 ⊢
    refine ⟨f, G, cc, ?_, h1, h2', srS_iff h3 (fun x => op_all), fun _ _ => rfl, fun _ _ => rfl⟩
    rw [r266_20]
    simp (disch := first | assumption | omega | decide | (simp only [List.length_cons, List.length_nil, Nat.reduceAdd, Nat.reduceLT]; done) | fail) only [r266_22, r266_24, r266_149, WPo_some, List.getElem?_cons_succ, List.getElem?_cons_zero, kil_n, kil_i, kil_a, kil_u, kil_l, Option.toList_some, Option.toList_none, List.cons_append, List.nil_append, List.set_cons_succ, List.set_cons_zero, addm1, Nat.reduceAdd, List.length_cons, List.length_nil, Nat.reduceLT, nI_clamp, nI_toInt, nI_leL, nI_Lle, nI_ltL, nI_Llt, nI_eqL, nI_Leq, nI_leE, nI_ltE, nI_eqE, nI_eqM, nI_add, nI_addL, nI_Ladd, nI_mulL, nI_Lmul, pk_mul, pk_sub, nI_subL, nI_Lsub, i2l_nI, Int.toNat_natCast, Nat.not_lt_zero, Nat.zero_le, ifT, ifF, not_true_eq_false, not_false_eq_true, if_true, if_false, or_self, and_self, true_and, and_true, or_true, true_or, false_or, or_false, false_and, and_false]
  | z + 1, p, f, G, cc, l5, l6, hz, h1, h2, h2', h3 => by
    have hp : p < 8 := by omega
    have mp : min p 7 = p := by omega
    rw [mp] at h3 ⊢
    have g1 := fgN_lt (v := W) (p := p)
    have g2 := fgN_lt (v := W) (p := p + 1)
    have p8 : 10 ^ p ≤ 10 ^ 7 := Nat.pow_le_pow_right (by decide) (by omega)
    have p0 : 0 < 10 ^ p := Nat.pow_pos (by decide)
    have e7 : (10 : Nat) ^ 7 = 10000000 := by decide
    have y0 : ¬ nI (10 ^ p) = 0 := by rw [show (0 : Int32) = nI 0 from rfl, nI_eqE (by omega) (by decide)]; omega
    have d1 : nI W / nI (10 ^ p) = nI (W / 10 ^ p) := nI_div (by omega) (by omega)
    have le : W / 10 ^ p ≤ W := Nat.div_le_self ..
    have r1 : nI (W / 10 ^ p) - nI (W / 10 ^ p) / 10 * 10 = nI (fgN W p) := nI_rem (b := 10) (by omega) (by decide)
    have d2 : nI (W / 10 ^ p) / 10 = nI (W / 10 ^ p / 10) := nI_div (b := 10) (by omega) (by decide)
    have le2 : W / 10 ^ p / 10 ≤ W / 10 ^ p := Nat.div_le_self ..
    have r2 : nI (W / 10 ^ p / 10) - nI (W / 10 ^ p / 10) / 10 * 10 = nI (fgN W (p + 1)) := by rw [← fg_up]; exact nI_rem (b := 10) (by omega) (by decide)
    let Q : Option Value → aHp → Prop := fun r x => r = none ∧ ∃ f' G' cc', x = mh E ah m ma v (iu ai 73 f') (lu al 72 G') ∧ f' i = nI cc' ∧ cc' ≤ 79 ∧ srS (fun q => (G' (80 * i + q)).toInt) cc' (opN W) ∧ frVa i f f' G G'
    have main := l_co1 (E := E) (c := c) (v := v) h (ai := ai) (al := al) hi hp hW (M := aW W p) (Q := Q) 10 0 f G cc (by omega) h1 (by rw [if_neg (by omega)]; omega) h3 (fun f1 G1 c1 q1 q2 q3 q4 => by
      by_cases p7 : p < 7
      · have mp1 : min (p + 1) 7 = p + 1 := by omega
        have pw : nI (10 ^ p) * 10 = nI (10 ^ (p + 1)) := by rw [show (10 : Int32) = nI 10 from rfl, pk_mul, Nat.pow_succ]
        by_cases y : fgN W (p + 1) = fgN W p
        · obtain ⟨f', G', cc', w, w1, w2, w3, w4⟩ := l_co2 h (ai := ai) (al := al) hi hW z (p + 1) f1 G1 c1 (some (.int (nI (fgN W p)))) (some (.int (nI (fgN W p)))) (by omega) q1 (by omega) (by omega) (by rw [mp1]; exact srS_iff q3 (fun x => or_congr_right (aW_no y)))
          rw [mp1] at w
          have w' := WP.mono w (Q' := Q) (by
            rintro r x ⟨e1, e2⟩
            exact ⟨e1, f', G', cc', e2, w1, w2, w3, frVa_tr q4 w4⟩)
          rw [y] at r2
          generalize hX : 10 ^ p = X at *
          generalize hY : 10 ^ (p + 1) = Y at *
          simp (disch := first | assumption | omega | decide | (simp only [List.length_cons, List.length_nil, Nat.reduceAdd, Nat.reduceLT]; done) | fail) only [r266_72, r266_74, r266_76, r266_79, r266_80, p7, nI_clamp, nI_leL, nI_Lle, nI_ltL, nI_Llt, nI_leE, nI_ltE, ifT, ifF, Nat.not_lt_zero, Nat.zero_le, WPo_some, List.getElem?_cons_succ, List.getElem?_cons_zero, kil_n, kil_i, kil_a, kil_u, kil_l, Option.toList_some, Option.toList_none, List.cons_append, List.nil_append, List.set_cons_succ, List.set_cons_zero, addm1, Nat.reduceAdd, List.length_cons, List.length_nil, Nat.reduceLT, not_true_eq_false, not_false_eq_true, if_true, if_false, or_self, and_self, true_and, and_true, or_true, true_or, false_or, or_false, false_and, and_false]
          rw [r266_81 y0, d1]
          simp (disch := first | assumption | omega | decide | (simp only [List.length_cons, List.length_nil, Nat.reduceAdd, Nat.reduceLT]; done) | fail) only [r266_82, WPo_some, List.getElem?_cons_succ, List.getElem?_cons_zero, kil_n, kil_i, kil_a, kil_u, kil_l, Option.toList_some, Option.toList_none, List.cons_append, List.nil_append, List.set_cons_succ, List.set_cons_zero, addm1, Nat.reduceAdd, List.length_cons, List.length_nil, Nat.reduceLT]
          rw [r266_84 (by decide), d2]
          simp (disch := first | assumption | omega | decide | (simp only [List.length_cons, List.length_nil, Nat.reduceAdd, Nat.reduceLT]; done) | fail) only [r266_85, WPo_some, List.getElem?_cons_succ, List.getElem?_cons_zero, kil_n, kil_i, kil_a, kil_u, kil_l, Option.toList_some, Option.toList_none, List.cons_append, List.nil_append, List.set_cons_succ, List.set_cons_zero, addm1, Nat.reduceAdd, List.length_cons, List.length_nil, Nat.reduceLT]
          rw [r266_87 (by decide), r2]
          simp (disch := first | assumption | omega | decide | (simp only [List.length_cons, List.length_nil, Nat.reduceAdd, Nat.reduceLT]; done) | fail) only [r266_88, r266_91, r266_93, r266_95, r266_97, r266_99, r266_127, r266_128, r266_130, r266_132, r266_135, r266_137, r266_140, r266_141, r266_142, r266_143, r266_146, pw, p7, nI_addL, nI_leL, nI_Lle, nI_ltL, nI_Llt, ifT, ifF, WPo_some, List.getElem?_cons_succ, List.getElem?_cons_zero, kil_n, kil_i, kil_a, kil_u, kil_l, Option.toList_some, Option.toList_none, List.cons_append, List.nil_append, List.set_cons_succ, List.set_cons_zero, addm1, Nat.reduceAdd, List.length_cons, List.length_nil, Nat.reduceLT, not_true_eq_false, not_false_eq_true, if_true, if_false, or_self, and_self, true_and, and_true, or_true, true_or, false_or, or_false, false_and, and_false]
          exact w'
        · obtain ⟨f2, G2, c2, k, s1, s2, s3, s4, s5⟩ := m_varies (E := E) (c := c) (v := v) (ai := iu ai 73 f1) (al := lu al 72 G1) h hi (by rw [iu_at]; exact q1) (show c1 < 80 by omega) (x := nI W + (nI (fgN W (p + 1)) - nI (fgN W p)) * nI (10 ^ p) + (nI (fgN W p) - nI (fgN W (p + 1))) * nI (10 ^ p) * 10) (M := fun x => aD W (p + 1) 0 x ∨ aW W p x) (by rw [lu_at]; exact q3)
          rw [iu_iu, lu_lu] at k
          rw [opW_33 hW p7] at s3
          rw [iu_at] at s4
          rw [lu_at] at s5
          obtain ⟨f', G', cc', w, w1, w2, w3, w4⟩ := l_co2 h (ai := ai) (al := al) hi hW z (p + 1) f2 G2 c2 (some (.int (nI (fgN W p)))) (some (.int (nI (fgN W (p + 1))))) (by omega) s1 (by omega) (by omega) (by
            rw [mp1]
            refine srS_iff s3 (fun x => ?_)
            rw [or_assoc]
            exact or_congr_right (aW_st y))
          rw [mp1] at w
          have w' := WP.mono w (Q' := Q) (by
            rintro r x ⟨e1, e2⟩
            exact ⟨e1, f', G', cc', e2, w1, w2, w3, frVa_tr q4 (frVa_tr ⟨s4, s5⟩ w4)⟩)
          have y' : ¬ nI (fgN W (p + 1)) = nI (fgN W p) := by rw [nI_eqE (by omega) (by omega)]; exact y
          generalize hX : 10 ^ p = X at *
          generalize hY : 10 ^ (p + 1) = Y at *
          simp (disch := first | assumption | omega | decide | (simp only [List.length_cons, List.length_nil, Nat.reduceAdd, Nat.reduceLT]; done) | fail) only [r266_72, r266_74, r266_76, r266_79, r266_80, p7, nI_clamp, nI_leL, nI_Lle, nI_ltL, nI_Llt, nI_leE, nI_ltE, ifT, ifF, Nat.not_lt_zero, Nat.zero_le, WPo_some, List.getElem?_cons_succ, List.getElem?_cons_zero, kil_n, kil_i, kil_a, kil_u, kil_l, Option.toList_some, Option.toList_none, List.cons_append, List.nil_append, List.set_cons_succ, List.set_cons_zero, addm1, Nat.reduceAdd, List.length_cons, List.length_nil, Nat.reduceLT, not_true_eq_false, not_false_eq_true, if_true, if_false, or_self, and_self, true_and, and_true, or_true, true_or, false_or, or_false, false_and, and_false]
          rw [r266_81 y0, d1]
          simp (disch := first | assumption | omega | decide | (simp only [List.length_cons, List.length_nil, Nat.reduceAdd, Nat.reduceLT]; done) | fail) only [r266_82, WPo_some, List.getElem?_cons_succ, List.getElem?_cons_zero, kil_n, kil_i, kil_a, kil_u, kil_l, Option.toList_some, Option.toList_none, List.cons_append, List.nil_append, List.set_cons_succ, List.set_cons_zero, addm1, Nat.reduceAdd, List.length_cons, List.length_nil, Nat.reduceLT]
          rw [r266_84 (by decide), d2]
          simp (disch := first | assumption | omega | decide | (simp only [List.length_cons, List.length_nil, Nat.reduceAdd, Nat.reduceLT]; done) | fail) only [r266_85, WPo_some, List.getElem?_cons_succ, List.getElem?_cons_zero, kil_n, kil_i, kil_a, kil_u, kil_l, Option.toList_some, Option.toList_none, List.cons_append, List.nil_append, List.set_cons_succ, List.set_cons_zero, addm1, Nat.reduceAdd, List.length_cons, List.length_nil, Nat.reduceLT]
          rw [r266_87 (by decide), r2]
          simp (disch := first | assumption | omega | decide | (simp only [List.length_cons, List.length_nil, Nat.reduceAdd, Nat.reduceLT]; done) | fail) only [r266_88, r266_91, r266_93, r266_95, r266_97, r266_99, r266_102, r266_103, r266_104, r266_105, r266_107, r266_109, r266_110, r266_111, r266_112, r266_113, r266_115, r266_117, r266_118, r266_119, r266_120, r266_122, r266_123, r266_127, r266_128, r266_130, r266_132, r266_135, r266_137, r266_140, r266_141, r266_142, r266_143, r266_146, y', q266_124 k h.ci, pw, p7, nI_addL, nI_leL, nI_Lle, nI_ltL, nI_Llt, ifT, ifF, WPo_some, List.getElem?_cons_succ, List.getElem?_cons_zero, kil_n, kil_i, kil_a, kil_u, kil_l, Option.toList_some, Option.toList_none, List.cons_append, List.nil_append, List.set_cons_succ, List.set_cons_zero, addm1, Nat.reduceAdd, List.length_cons, List.length_nil, Nat.reduceLT, not_true_eq_false, not_false_eq_true, if_true, if_false, or_self, and_self, true_and, and_true, or_true, true_or, false_or, or_false, false_and, and_false]
          exact w'
      · have hp7 : p = 7 := by omega
        subst hp7
        obtain ⟨f', G', cc', w, w1, w2, w3, w4⟩ := l_co2 h (ai := ai) (al := al) hi hW z (7 + 1) f1 G1 c1 (some (.int (nI (fgN W 7)))) (some (.int (nI (fgN W 7)))) (by omega) q1 (by omega) (by omega) q3
        have w' := WP.mono w (Q' := Q) (by
          rintro r x ⟨e1, e2⟩
          exact ⟨e1, f', G', cc', e2, w1, w2, w3, frVa_tr q4 w4⟩)
        rw [show min (7 + 1) 7 = 7 from rfl] at w'
        have p1 : nI (10 ^ 7) * 1 = nI (10 ^ 7) := Int32.mul_one _
        have s7 : ¬ nI 7 < 7 := by decide
        have s7' : (7 : Int32) ≤ nI 7 := by decide
        have a7 : nI 7 + 1 = nI (7 + 1) := rfl
        generalize hX : 10 ^ 7 = X at *
        generalize hN : nI 7 = N at *
        simp (disch := first | assumption | omega | decide | (simp only [List.length_cons, List.length_nil, Nat.reduceAdd, Nat.reduceLT]; done) | fail) only [r266_72, r266_74, r266_76, r266_91, r266_93, r266_95, r266_97, r266_99, r266_127, r266_128, r266_130, r266_132, r266_135, r266_137, r266_140, r266_141, r266_142, r266_143, r266_146, s7, s7', a7, p1, WPo_some, List.getElem?_cons_succ, List.getElem?_cons_zero, kil_n, kil_i, kil_a, kil_u, kil_l, Option.toList_some, Option.toList_none, List.cons_append, List.nil_append, List.set_cons_succ, List.set_cons_zero, addm1, Nat.reduceAdd, List.length_cons, List.length_nil, Nat.reduceLT, not_true_eq_false, not_false_eq_true, if_true, if_false, or_self, and_self, true_and, and_true, or_true, true_or, false_or, or_false, false_and, and_false]
        exact w')
    obtain ⟨r1', x1, ⟨e1, f', G', cc', e2, e3, e4, e5, e6⟩, w⟩ := WP.ex main
    subst e1 e2
    refine ⟨f', G', cc', ?_, e3, e4, e5, e6⟩
    have s8 : ¬ nI p ≥ 8 := by
      show ¬ (8 : Int32) ≤ nI p
      rw [show (8 : Int32) = nI 8 from rfl, nI_leE (by decide) (by omega)]
      omega
    have s8' : ¬ (8 : Int32) ≤ nI p := s8
    rw [r266_20]
    generalize hX : 10 ^ p = X at *
    simp (disch := first | assumption | omega | decide | (simp only [List.length_cons, List.length_nil, Nat.reduceAdd, Nat.reduceLT]; done) | fail) only [r266_22, r266_24, r266_27, r266_28, s8', WPo_some, List.getElem?_cons_succ, List.getElem?_cons_zero, kil_n, kil_i, kil_a, kil_u, kil_l, Option.toList_some, Option.toList_none, List.cons_append, List.nil_append, List.set_cons_succ, List.set_cons_zero, addm1, Nat.reduceAdd, List.length_cons, List.length_nil, Nat.reduceLT, not_true_eq_false, not_false_eq_true, if_true, if_false, or_self, and_self, true_and, and_true, or_true, true_or, false_or, or_false, false_and, and_false]
    rw [r266_29 y0, d1]
    simp (disch := first | assumption | omega | decide | (simp only [List.length_cons, List.length_nil, Nat.reduceAdd, Nat.reduceLT]; done) | fail) only [r266_30, WPo_some, List.getElem?_cons_succ, List.getElem?_cons_zero, kil_n, kil_i, kil_a, kil_u, kil_l, Option.toList_some, Option.toList_none, List.cons_append, List.nil_append, List.set_cons_succ, List.set_cons_zero, addm1, Nat.reduceAdd, List.length_cons, List.length_nil, Nat.reduceLT]
    rw [r266_32 (by decide), r1]
    simp (disch := first | assumption | omega | decide | (simp only [List.length_cons, List.length_nil, Nat.reduceAdd, Nat.reduceLT]; done) | fail) only [r266_33, r266_35, r266_36, WPo_some, List.getElem?_cons_succ, List.getElem?_cons_zero, kil_n, kil_i, kil_a, kil_u, kil_l, Option.toList_some, Option.toList_none, List.cons_append, List.nil_append, List.set_cons_succ, List.set_cons_zero, addm1, Nat.reduceAdd, List.length_cons, List.length_nil, Nat.reduceLT]
    exact w
theorem m_corrects (h : MO E ah m ma) {ai : Nat → Nat → Int32} {al : Nat → Nat → Int64} {i W : Nat} (hi : i < 20) (hW : W ≤ 99999999) (ht : al 70 i = lN W) : ∃ f' G' cc', EV E (c + 1) 266 [.ref m, .int (nI i)] (mh E ah m ma v ai al) none (mh E ah m ma v (iu ai 73 f') (lu al 72 G')) ∧ f' i = nI cc' ∧ cc' ≤ 79 ∧ srS (fun q => (G' (80 * i + q)).toInt) cc' (opN W) ∧ frVa i (ai 73) f' (al 72) G' := by
  obtain ⟨f', G', cc', w, w1, w2, w3, w4⟩ := l_co2 (E := E) (c := c) (v := v) h (ai := ai) (al := al) hi hW 8 0 (upd (ai 73) i (nI 0)) (al 72) 0 none none (by omega) upd_at (by omega) (by omega) ⟨fun a b _ h => absurd h (by omega), fun x => ⟨fun z => by
    rcases z with z | ⟨p', z, -⟩
    · exact absurd z aD_0
    · exact absurd z (by omega), fun ⟨q, hq, _⟩ => absurd hq (by omega)⟩⟩
  refine ⟨f', G', cc', e266 ?_, w1, w2, w3, frVa_tr ⟨fun q hq => upd_ne hq, fun _ _ => rfl⟩ w4⟩
  rw [show nI 0 = (0 : Int32) from rfl, show nI (10 ^ (min 0 7)) = (1 : Int32) from rfl, lu_self] at w
  have e : (lN W).toInt32 = nI W := lN_i W
  simp (disch := first | assumption | omega | decide | (simp only [List.length_cons, List.length_nil, Nat.reduceAdd, Nat.reduceLT]; done) | fail) only [r266_0, r266_1, r266_4, r266_5, r266_6, r266_7, r266_8, r266_9, r266_12, r266_13, r266_14, r266_15, r266_16, r266_17, r266_18, mh_o h, gm_70, gm_73, gL, pI, hm_70 h, hm_73 h, sm_73 h, ht, e, WPo_some, List.getElem?_cons_succ, List.getElem?_cons_zero, kil_n, kil_i, kil_a, kil_u, kil_l, Option.toList_some, Option.toList_none, List.cons_append, List.nil_append, List.set_cons_succ, List.set_cons_zero, addm1, Nat.reduceAdd, List.length_cons, List.length_nil, Nat.reduceLT, nI_clamp, nI_toInt, nI_leL, nI_Lle, nI_ltL, nI_Llt, nI_eqL, nI_Leq, nI_leE, nI_ltE, nI_eqE, nI_eqM, nI_add, nI_addL, nI_Ladd, nI_mulL, nI_Lmul, pk_mul, pk_sub, nI_subL, nI_Lsub, i2l_nI, Int.toNat_natCast, Nat.not_lt_zero, Nat.zero_le, ifT, ifF, not_true_eq_false, not_false_eq_true, if_true, if_false, or_self, and_self, true_and, and_true, or_true, true_or, false_or, or_false, false_and, and_false]
  exact w
end MCO

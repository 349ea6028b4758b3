/-! Errata of the model: the whole call; both sides find the same -/
section MEO
variable {E : aEnv} {c m : Nat} {ah : aHp} {ma : Nat → Nat} {v : Nat → Value} {ai : Nat → Nat → Int32} {al : Nat → Nat → Int64} {n k b : Nat} {sr : Nat → Int32} {mn : Nat → Nat} {tn : Nat → Nat → Int64}
theorem l_emT (h : MO E ah m ma) {j n : Nat} (hj : j < 4) (hn : n ≤ mn j) (hn20 : n ≤ 20) {l3 l6 l7 : Option Value} {l4 : Int32} {N0 : Nat → Int64} {Q : Option Value → aHp → Prop} (K : WP E (c + 1) 270 156 [some (.ref m), some (.int (nI j)), some (.int (nI n)), l3, some (.int l4), some (.int (nI n)), l6, l7] [] (mh E ah m ma v ai (lu al 70 (ovr N0 0 n (tn j)))) Q) : ∀ z i, i + z = n → TM ai al sr mn tn → WP E (c + 1) 270 130 [some (.ref m), some (.int (nI j)), some (.int (nI n)), l3, some (.int l4), some (.int (nI i)), l6, l7] [] (mh E ah m ma v ai (lu al 70 (ovr N0 0 i (tn j)))) Q
  | 0, i, hz, hT => by
    rw [show i = n by omega, r270_130]
    simp (disch := first | assumption | omega | decide | (simp only [List.length_cons, List.length_nil, Nat.reduceAdd, Nat.reduceLT]; done) | fail) only [r270_132, r270_133, WPo_some, List.getElem?_cons_succ, List.getElem?_cons_zero, kil_n, kil_i, kil_a, kil_u, kil_l, Option.toList_some, Option.toList_none, List.cons_append, List.nil_append, List.set_cons_succ, List.set_cons_zero, addm1, Nat.reduceAdd, List.length_cons, List.length_nil, Nat.reduceLT, nI_clamp, nI_toInt, nI_leL, nI_Lle, nI_ltL, nI_Llt, nI_eqL, nI_Leq, nI_leE, nI_ltE, nI_eqE, nI_eqM, nI_add, nI_addL, nI_Ladd, nI_mulL, nI_Lmul, pk_mul, pk_sub, nI_subL, nI_Lsub, i2l_nI, Int.toNat_natCast, Nat.not_lt_zero, Nat.zero_le, ifT, ifF, not_true_eq_false, not_false_eq_true, if_true, if_false, or_self, and_self, true_and, and_true, or_true, true_or, false_or, or_false, false_and, and_false]
    exact K
  | z + 1, i, hz, hT => by
    have ih := l_emT h hj hn hn20 K z (i + 1) (by omega) hT
    have hT2 : TM ai (lu al 70 (ovr N0 0 i (tn j))) sr mn tn := TM_fr hT (fun k hk => rfl) (lu_ne (by decide))
    have m2 := vupd_ovr (F := N0) (i := i) (h := tn j) (x := tn j i) rfl
    rw [r270_130]
    simp (disch := first | assumption | omega | decide | (simp only [List.length_cons, List.length_nil, Nat.reduceAdd, Nat.reduceLT]; done) | fail) only [r270_132, r270_133, r270_136, r270_137, r270_140, r270_142, r270_143, r270_144, r270_149, r270_150, r270_153, q270_146 (m_numberOf h hT2 hj (show i < mn j by omega)) h.ci, mh_o h, gm_70, WPo_some, List.getElem?_cons_succ, List.getElem?_cons_zero, kil_n, kil_i, kil_a, kil_u, kil_l, Option.toList_some, Option.toList_none, List.cons_append, List.nil_append, List.set_cons_succ, List.set_cons_zero, addm1, Nat.reduceAdd, List.length_cons, List.length_nil, Nat.reduceLT, nI_clamp, nI_toInt, nI_leL, nI_Lle, nI_ltL, nI_Llt, nI_eqL, nI_Leq, nI_leE, nI_ltE, nI_eqE, nI_eqM, nI_add, nI_addL, nI_Ladd, nI_mulL, nI_Lmul, pk_mul, pk_sub, nI_subL, nI_Lsub, i2l_nI, Int.toNat_natCast, Nat.not_lt_zero, Nat.zero_le, ifT, ifF, not_true_eq_false, not_false_eq_true, if_true, if_false, or_self, and_self, true_and, and_true, or_true, true_or, false_or, or_false, false_and, and_false, pL, hm_70 h, sm_70 h, lu_at, lu_lu, m2]
    exact ih
theorem l_emC (h : MO E ah m ma) {V : Nat → Nat} (hn : n ≤ 20) (hV : ∀ i, i < n → al 70 i = iL (V i) ∧ V i ≤ 99999999) {l1 l3 l6 l7 : Option Value} {l4 : Int32} {Q : Option Value → aHp → Prop} : ∀ z i f G, i + z = n → (∀ q, q < i → ∃ cc, f q = nI cc ∧ cc ≤ 79 ∧ srS (fun x => (G (80 * q + x)).toInt) cc (opN (V q))) → (∀ f' G', mrL n V (iu ai 73 f') (lu al 72 G') → WP E (c + 2) 270 177 [some (.ref m), l1, some (.int (nI n)), l3, some (.int l4), some (.int (nI n)), l6, l7] [] (mh E ah m ma v (iu ai 73 f') (lu al 72 G')) Q) → WP E (c + 2) 270 159 [some (.ref m), l1, some (.int (nI n)), l3, some (.int l4), some (.int (nI i)), l6, l7] [] (mh E ah m ma v (iu ai 73 f) (lu al 72 G)) Q
  | 0, i, f, G, hz, hq, K => by
    have K := K f G ⟨fun q hq => by rw [lu_ne (by decide)]; exact hV q hq, fun q h => by
      rw [iu_at, lu_at]
      exact hq q (by omega)⟩
    rw [show i = n by omega, r270_159]
    simp (disch := first | assumption | omega | decide | (simp only [List.length_cons, List.length_nil, Nat.reduceAdd, Nat.reduceLT]; done) | fail) only [r270_161, r270_162, WPo_some, List.getElem?_cons_succ, List.getElem?_cons_zero, kil_n, kil_i, kil_a, kil_u, kil_l, Option.toList_some, Option.toList_none, List.cons_append, List.nil_append, List.set_cons_succ, List.set_cons_zero, addm1, Nat.reduceAdd, List.length_cons, List.length_nil, Nat.reduceLT, nI_clamp, nI_toInt, nI_leL, nI_Lle, nI_ltL, nI_Llt, nI_eqL, nI_Leq, nI_leE, nI_ltE, nI_eqE, nI_eqM, nI_add, nI_addL, nI_Ladd, nI_mulL, nI_Lmul, pk_mul, pk_sub, nI_subL, nI_Lsub, i2l_nI, Int.toNat_natCast, Nat.not_lt_zero, Nat.zero_le, ifT, ifF, not_true_eq_false, not_false_eq_true, if_true, if_false, or_self, and_self, true_and, and_true, or_true, true_or, false_or, or_false, false_and, and_false]
    exact K
  | z + 1, i, f, G, hz, hq, K => by
    obtain ⟨f', G', cc, k, q1, q2, q3, q4, q5⟩ := m_corrects (E := E) (c := c) (v := v) h (ai := iu ai 73 f) (al := lu al 72 G) (i := i) (W := V i) (by omega) (hV i (by omega)).2 (by rw [lu_ne (by decide), lN_iL]; exact (hV i (by omega)).1)
    rw [iu_iu, lu_lu] at k
    rw [iu_at] at q4
    rw [lu_at] at q5
    have ih := l_emC h hn hV (l1 := l1) (l3 := l3) (l6 := l6) (l7 := l7) (l4 := l4) (Q := Q) z (i + 1) f' G' (by omega) (fun q h => by
      by_cases e : q = i
      · subst e
        exact ⟨cc, q1, q2, q3⟩
      · obtain ⟨cq, w1, w2, w3⟩ := hq q (by omega)
        refine ⟨cq, by rw [q4 q e]; exact w1, w2, ⟨fun a d h1 h2 => ?_, fun x => ?_⟩⟩
        · have := w3.1 a d h1 h2
          show (G' (80 * q + a)).toInt ≤ (G' (80 * q + d)).toInt
          rw [q5 _ (by omega), q5 _ (by omega)]
          exact this
        · rw [w3.2 x]
          constructor
          · rintro ⟨a, a1, a2⟩
            exact ⟨a, a1, by show (G' (80 * q + a)).toInt = x; rw [q5 _ (by omega)]; exact a2⟩
          · rintro ⟨a, a1, a2⟩
            have a2 : (G' (80 * q + a)).toInt = x := a2
            rw [q5 _ (by omega)] at a2
            exact ⟨a, a1, a2⟩) K
    rw [r270_159]
    simp (disch := first | assumption | omega | decide | (simp only [List.length_cons, List.length_nil, Nat.reduceAdd, Nat.reduceLT]; done) | fail) only [r270_161, r270_162, r270_165, r270_166, r270_171, r270_174, q270_168 k h.ci, WPo_some, List.getElem?_cons_succ, List.getElem?_cons_zero, kil_n, kil_i, kil_a, kil_u, kil_l, Option.toList_some, Option.toList_none, List.cons_append, List.nil_append, List.set_cons_succ, List.set_cons_zero, addm1, Nat.reduceAdd, List.length_cons, List.length_nil, Nat.reduceLT, nI_clamp, nI_toInt, nI_leL, nI_Lle, nI_ltL, nI_Llt, nI_eqL, nI_Leq, nI_leE, nI_ltE, nI_eqE, nI_eqM, nI_add, nI_addL, nI_Ladd, nI_mulL, nI_Lmul, pk_mul, pk_sub, nI_subL, nI_Lsub, i2l_nI, Int.toNat_natCast, Nat.not_lt_zero, Nat.zero_le, ifT, ifF, not_true_eq_false, not_false_eq_true, if_true, if_false, or_self, and_self, true_and, and_true, or_true, true_or, false_or, or_false, false_and, and_false]
    exact ih
theorem m_errata_ok (h : MO E ah m ma) (hT : TM ai al sr mn tn) {j : Nat} (hj : j < 4) (hne : ¬ sr j = -1) (h3 : 3 ≤ n) (h1 : 1 ≤ k) (h4 : k ≤ 4) (hn : n ≤ 20) (hkn : k < n) (hb : b ≤ 1000) (hm : n ≤ mn j) (hr : ∀ q, q < n → 0 ≤ tn j q ∧ tn j q ≤ 99999999) : ∃ r v' ai' al', EV E (c + 3) 270 [.ref m, .int (nI j), .int (nI n), .int (nI k), .int (nI b)] (mh E ah m ma v ai al) (some (.int r)) (mh E ah m ma v' ai' al') ∧ erB n k b (tV (tn j)) v v' ai ai' r ∧ v' 0 = .int (if r = -1 then 8 else 0) ∧ v' 1 = .int 0 ∧ (∀ q, q ≠ 0 → q ≠ 1 → q ≠ 74 → v' q = v q) ∧ (∀ q, ¬ (q = 73 ∨ q = 75 ∨ q = 76 ∨ q = 97 ∨ q = 98) → ai' q = ai q) ∧ ∀ q, ¬ (70 ≤ q ∧ q ≤ 72) → al' q = al q := by
  have ej := nI_toInt (show j < 2 ^ 31 by omega)
  obtain ⟨m1, m2, m3⟩ := hT j hj
  rw [if_neg hne] at m2
  have ht1 := m_trayed (E := E) (c := c + 2) (v := vu v 1 (.int 0)) h hT (x := nI j)
  rw [if_neg (by rw [ej]; omega), ej, Int.toNat_natCast, if_neg hne] at ht1
  have en := nI_toInt (show n < 2 ^ 31 by omega)
  have ek := nI_toInt (show k < 2 ^ 31 by omega)
  have eb := nI_toInt (show b < 2 ^ 31 by omega)
  have c1 : (3 : Int64) ≤ (nI n).toInt64 ∧ (nI n).toInt64 ≤ 20 := by simp only [i64_lt, i64_le, i2l_toInt, Int64.reduceToInt, en]; omega
  have c2 : (1 : Int64) ≤ (nI k).toInt64 ∧ (nI k).toInt64 ≤ 4 := by simp only [i64_lt, i64_le, i2l_toInt, Int64.reduceToInt, ek]; omega
  have c3 : (0 : Int64) ≤ (nI b).toInt64 ∧ (nI b).toInt64 ≤ 1000 := by simp only [i64_lt, i64_le, i2l_toInt, Int64.reduceToInt, eb]; omega
  let v1 := vu (vu v 1 (.int 0)) 0 (.int 0)
  let P : Option Value → aHp → Prop := fun r1 x => ∃ r v' ai' al', r1 = some (.int r) ∧ x = mh E ah m ma v' ai' al' ∧ erB n k b (tV (tn j)) v1 v' ai ai' r ∧ v' 0 = .int (if r = -1 then 8 else 0) ∧ (∀ q, q ≠ 0 → q ≠ 74 → v' q = v1 q) ∧ (∀ q, ¬ (q = 73 ∨ q = 75 ∨ q = 76 ∨ q = 97 ∨ q = 98) → ai' q = ai q) ∧ ∀ q, ¬ (70 ≤ q ∧ q ≤ 72) → al' q = al q
  have hV : ∀ i, i < n → lu al 70 (ovr (al 70) 0 n (tn j)) 70 i = iL (tV (tn j) i) ∧ tV (tn j) i ≤ 99999999 := fun i hi => by
    obtain ⟨-, t2, t3⟩ := tV_i (hr i hi)
    rw [lu_at, ovr0_in hi, t3]
    exact ⟨iL_of _, t2⟩
  have lC := l_emC (E := E) (c := c + 1) (v := v1) (ai := ai) (al := lu al 70 (ovr (al 70) 0 n (tn j))) h hn hV (l1 := some (.int (nI j))) (l3 := some (.int (nI k))) (l6 := none) (l7 := none) (l4 := nI b) (Q := P) n 0 (ai 73) (lu al 70 (ovr (al 70) 0 n (tn j)) 72) (by omega) (fun q hq => absurd hq (by omega)) (fun f' G' hL => by
    obtain ⟨r, v', ai', al', w, e3, e4, e5⟩ := m_search (E := E) (c := c) (v := v1) h h1 h4 hn hkn hb hL (l1 := some (.int (nI j))) (l6 := none) (l7 := none) (l5 := nI n) vu_at
    refine WP.mono w (Q' := P) ?_
    rintro r1 x ⟨q1, q2⟩
    refine ⟨r, v', ai', al', q1, q2, ?_, e4, e5.1, fun q hq => ?_, fun q hq => ?_⟩
    · rcases e3 with e | e | e | ⟨a1, a2, a3, a4, a5, a6, a7⟩
      · exact Or.inl e
      · exact Or.inr (Or.inl e)
      · exact Or.inr (Or.inr (Or.inl e))
      · exact Or.inr (Or.inr (Or.inr ⟨a1, a2, a3, a4, a5, by rw [a6, iu_ne (by decide)], by rw [a7, iu_ne (by decide)]⟩))
    · rw [e5.2.1 q hq, iu_ne (by omega)]
    · rw [e5.2.2 q hq, lu_ne (by omega), lu_ne (by omega)])
  rw [iu_self, lu_self] at lC
  have lT := l_emT (E := E) (c := c + 2) (v := v1) (ai := ai) (al := al) (tn := tn) h hj hm hn (l3 := some (.int (nI k))) (l4 := nI b) (l6 := none) (l7 := none) (N0 := al 70) (Q := P) (by
    simp (disch := first | assumption | omega | decide | (simp only [List.length_cons, List.length_nil, Nat.reduceAdd, Nat.reduceLT]; done) | fail) only [r270_156, r270_157, WPo_some, List.getElem?_cons_succ, List.getElem?_cons_zero, kil_n, kil_i, kil_a, kil_u, kil_l, Option.toList_some, Option.toList_none, List.cons_append, List.nil_append, List.set_cons_succ, List.set_cons_zero, addm1, Nat.reduceAdd, List.length_cons, List.length_nil, Nat.reduceLT]
    exact lC) n 0 (by omega) hT
  rw [ovr_0, lu_self] at lT
  have lL := l_emL (E := E) (c := c + 2) (v := v1) h hT hj hm hn (l3 := some (.int (nI k))) (l4 := nI b) (l6 := none) (l7 := none) (Q := P) (fun _ => by
    simp (disch := first | assumption | omega | decide | (simp only [List.length_cons, List.length_nil, Nat.reduceAdd, Nat.reduceLT]; done) | fail) only [r270_127, r270_128, WPo_some, List.getElem?_cons_succ, List.getElem?_cons_zero, kil_n, kil_i, kil_a, kil_u, kil_l, Option.toList_some, Option.toList_none, List.cons_append, List.nil_append, List.set_cons_succ, List.set_cons_zero, addm1, Nat.reduceAdd, List.length_cons, List.length_nil, Nat.reduceLT]
    exact lT) (fun z => absurd hr z) n 0 (by omega) (fun x hx => absurd hx (by omega))
  obtain ⟨r1, x1, ⟨r, v', ai', al', e1, e2, e3, e4, e5, e6, e7⟩, w⟩ := WP.ex lL
  subst e1 e2
  have v1q : ∀ q, q ≠ 0 → q ≠ 1 → v1 q = v q := fun q q0 q1 => by show vu (vu v 1 _) 0 _ q = _; rw [vu_ne q0, vu_ne q1]
  refine ⟨r, v', ai', al', e270 ?_, ?_, e4, ?_, fun q q0 q1 q2 => by rw [e5 q q0 q2, v1q q q0 q1], e6, e7⟩
  · simp (disch := first | assumption | omega | decide | (simp only [List.length_cons, List.length_nil, Nat.reduceAdd, Nat.reduceLT]; done) | fail) only [r270_0, r270_1, r270_2, r270_5, r270_6, r270_7, r270_11, r270_14, r270_15, r270_18, r270_21, r270_22, r270_23, r270_24, r270_25, r270_28, r270_34, r270_37, r270_38, r270_39, r270_40, r270_46, r270_49, r270_50, r270_51, r270_54, r270_56, r270_57, r270_58, r270_64, r270_67, r270_68, r270_72, r270_73, r270_74, r270_77, r270_78, r270_79, r270_80, r270_83, r270_84, r270_88, r270_89, r270_90, mh_o h, mh_put h, pm_1, pm_0, gm_0, gm_3, vu_at, q270_8 ht1 h.ci, q270_31 m_isIn, q270_43 m_isIn, q270_61 m_isIn, WPo_some, List.getElem?_cons_succ, List.getElem?_cons_zero, kil_n, kil_i, kil_a, kil_u, kil_l, Option.toList_some, Option.toList_none, List.cons_append, List.nil_append, List.set_cons_succ, List.set_cons_zero, addm1, Nat.reduceAdd, List.length_cons, List.length_nil, Nat.reduceLT, not_true_eq_false, not_false_eq_true, if_true, if_false, or_self, and_self, true_and, and_true, or_true, true_or, false_or, or_false, false_and, and_false, b2i_eq0, c1, c2, c3, show (0 : Int32) ≤ 0 by decide, gI, hm_3 h, m2.1, nI_clamp, nI_toInt, nI_leL, nI_Lle, nI_ltL, nI_Llt, nI_eqL, nI_Leq, nI_leE, nI_ltE, nI_eqE, nI_eqM, nI_add, nI_addL, nI_Ladd, nI_mulL, nI_Lmul, pk_mul, pk_sub, nI_subL, nI_Lsub, i2l_nI, Int.toNat_natCast, Nat.not_lt_zero, Nat.zero_le, ifT, ifF, vu_vu]
    exact w
  · rcases e3 with e | e | e | ⟨a1, a2, a3, a4, a5, a6⟩
    · exact Or.inl e
    · exact Or.inr (Or.inl e)
    · exact Or.inr (Or.inr (Or.inl e))
    · exact Or.inr (Or.inr (Or.inr ⟨a1, a2, a3, a4, by rw [a5, v1q 74 (by decide) (by decide)], a6⟩))
  · rw [e5 1 (by decide) (by decide)]
    show vu (vu v 1 _) 0 _ 1 = _
    rw [vu_ne (by decide), vu_at]
end MEO
theorem B1_u {n k b : Nat} {V : Nat → Nat} {i i' : Nat} {x x' : Int} (h : B1 n k b V i x) (g : B1 n k b V i' x') : i = i' ∧ x = x' := by
  have a := h.2 _ _ g.1
  have d := g.2 _ _ h.1
  omega
theorem B2_u {n k b : Nat} {V : Nat → Nat} {i j i' j' : Nat} {x y x' y' : Int} (h : B2 n k b V i j x y) (g : B2 n k b V i' j' x' y') : i = i' ∧ j = j' ∧ x = x' ∧ y = y' := by
  have a := h.2 _ _ _ _ g.1
  have d := g.2 _ _ _ _ h.1
  omega
/-- both sides answer alike, and keep the same -/
theorem er_same {n k b : Nat} {V : Nat → Nat} {fn : Nat} {wi sh : Nat → Int32} {r r' fn' : Int32} {wi' sh' : Nat → Int32} {v v' : Nat → Value} {ai ai' : Nat → Nat → Int32} (hM : erM v ai fn wi sh) (hA : erA n k b V (nI fn) wi sh r fn' wi' sh') (hB : erB n k b V v v' ai ai' r') : r = r' ∧ ∃ f, fn' = nI f ∧ erM v' ai' f wi' sh' := by
  obtain ⟨m1, m2, m3⟩ := hM
  rcases hA with ⟨a1, a2, a3, a4, a5⟩ | ⟨a1, a2, a3, i, x, a4, a5, a6⟩ | ⟨a1, a2, a3, a4, i, j, x, y, a5, a6, a7⟩ | ⟨a1, a2, a3, a4, a5, a6, a7⟩
  · rcases hB with ⟨b1, b2, b3⟩ | ⟨b1, b2, -⟩ | ⟨b1, b2, -⟩ | ⟨b1, b2, -⟩
    · exact ⟨by rw [a1, b1], 0, a3, by decide, b3, fun i hi => absurd hi (by omega)⟩
    · exact absurd a2 b2
    · exact absurd a2 b2
    · exact absurd a2 b2
  · rcases hB with ⟨b1, b2, -⟩ | ⟨b1, b2, b3, i', x', b4, b5, b6⟩ | ⟨b1, b2, b3, -⟩ | ⟨b1, b2, b3, -⟩
    · exact absurd b2 a2
    · obtain ⟨u1, u2⟩ := B1_u a6 b6
      subst u1
      have u2 : x = x' := Int32.toInt_inj.mp u2
      subst u2
      refine ⟨by rw [a1, b1], 1, a3, by decide, b3, fun q hq => ?_⟩
      rw [show q = 0 by omega, a4, a5, upd_at, upd_at]
      exact ⟨b4, b5⟩
    · exact absurd a6.1 (b3 _ _)
    · exact absurd a6.1 (b3 _ _)
  · rcases hB with ⟨b1, b2, -⟩ | ⟨b1, b2, b3, i', x', b4, b5, b6⟩ | ⟨b1, b2, b3, b4, i', j', x', y', b5, b6, b7, b8, b9⟩ | ⟨b1, b2, b3, b4, -⟩
    · exact absurd b2 a2
    · exact absurd b6.1 (a3 _ _)
    · obtain ⟨u1, u2, u3, u4⟩ := B2_u a7 b9
      subst u1 u2
      have u3 : x = x' := Int32.toInt_inj.mp u3
      have u4 : y = y' := Int32.toInt_inj.mp u4
      subst u3 u4
      refine ⟨by rw [a1, b1], 2, a4, by decide, b4, fun q hq => ?_⟩
      rcases (show q = 0 ∨ q = 1 by omega) with rfl | rfl
      · rw [a5, a6, upd_ne (by decide), upd_at, upd_ne (by decide), upd_at]
        exact ⟨b5, b6⟩
      · rw [a5, a6, upd_at, upd_at]
        exact ⟨b7, b8⟩
    · exact absurd a7.1 (b4 _ _ _ _)
  · rcases hB with ⟨b1, b2, -⟩ | ⟨b1, b2, b3, i', x', b4, b5, b6⟩ | ⟨b1, b2, b3, b4, i', j', x', y', b5, b6, b7, b8, b9⟩ | ⟨b1, b2, b3, b4, b5, b6, b7⟩
    · exact absurd b2 a2
    · exact absurd b6.1 (a3 _ _)
    · exact absurd b9.1 (a4 _ _ _ _)
    · refine ⟨by rw [a1, b1], fn, a5, m1, by rw [b5]; exact m2, fun q hq => ?_⟩
      rw [b6, b7, a6, a7]
      exact m3 q hq

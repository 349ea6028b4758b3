/-! Errata of the class: listing the options -/
section EX6
variable {E : aEnv} {c : Nat} {ah : aHp} {A : Nat → Nat} {S : Nat → aE} {fn mn od bd : Int32} {lo hi : Int64} {vl wi sh : Nat → Int32} {dl : Nat → Int64} {V : Nat → Nat}
theorem aW_st {v p : Nat} {x : Int} (h : fgN v (p + 1) ≠ fgN v p) : (aW v p x ∨ x = opW v p) ↔ aW v (p + 1) x := by
  constructor
  · rintro (⟨p', h1, h2⟩ | h1)
    · exact ⟨p', by omega, h2⟩
    · exact ⟨p, by omega, h, h1⟩
  · rintro ⟨p', h1, h2, h3⟩
    by_cases z : p' = p
    · subst z; exact Or.inr h3
    · exact Or.inl ⟨p', by omega, h2, h3⟩
theorem aW_no {v p : Nat} {x : Int} (h : fgN v (p + 1) = fgN v p) : aW v p x ↔ aW v (p + 1) x := by
  constructor
  · rintro ⟨p', h1, h2⟩
    exact ⟨p', by omega, h2⟩
  · rintro ⟨p', h1, h2, h3⟩
    by_cases z : p' = p
    · subst z; exact absurd h h2
    · exact ⟨p', by omega, h2, h3⟩
theorem l_lo2 (hO : XO E ah A) (hE : ErE E) {i : Nat} (hi' : i < 20) (hv : vl i = nI (V i)) (hv2 : V i ≤ 99999999) {Q : Option Value → aHp → Prop} : ∀ z p oc OP cc l3 l4, p + z = 8 → oc i = nI cc → cc ≤ 9 * p → srS (fun q => (OP i q).toInt) cc (aD (V i) p 0) → (∀ oc' OP' cc' l3 l4, oc' i = nI cc' → cc' ≤ 72 → srS (fun q => (OP' i q).toInt) cc' (aD (V i) 8 0) → frO i oc oc' OP OP' → WP E (c + 1) 61 72 [some (.ref (A 19)), some (.int (nI i)), some (.int (nI 8)), l3, l4] [] (oh E ah A (eS A S fn mn od bd lo hi vl oc' wi sh dl OP')) Q) → WP E (c + 1) 61 9 [some (.ref (A 19)), some (.int (nI i)), some (.int (nI p)), l3, l4] [] (oh E ah A (eS A S fn mn od bd lo hi vl oc wi sh dl OP)) Q
  | 0, p, oc, OP, cc, l3, l4, hz, h1, h2, h3, K => by
    rw [show p = 8 by omega] at h2 h3 ⊢
    have K := K oc OP cc l3 l4 h1 (by omega) h3 (fun q hq => ⟨rfl, rfl⟩)
    rw [r61_9]
    simp (disch := first | assumption | omega | decide | (simp only [List.length_cons, List.length_nil, Nat.reduceAdd, Nat.reduceLT]; done) | fail) only [r61_10, r61_12, oGF_is, WPo_some, List.getElem?_cons_succ, List.getElem?_cons_zero, kil_n, kil_i, kil_a, kil_u, kil_l, Option.toList_some, Option.toList_none, List.cons_append, List.nil_append, List.set_cons_succ, List.set_cons_zero, addm1, Nat.reduceAdd, List.length_cons, List.length_nil, Nat.reduceLT, nI_clamp, nI_toInt, nI_leL, nI_Lle, nI_ltL, nI_Llt, nI_eqL, nI_Leq, nI_leE, nI_ltE, nI_eqE, nI_eqM, nI_add, nI_addL, nI_Ladd, nI_mulL, nI_Lmul, pk_mul, pk_sub, nI_subL, nI_Lsub, i2l_nI, Int.toNat_natCast, Nat.not_lt_zero, Nat.zero_le, ifT, ifF, not_true_eq_false, not_false_eq_true, if_true, if_false, or_self, and_self, true_and, and_true, or_true, true_or, false_or, or_false, false_and, and_false]
    exact K
  | z + 1, p, oc, OP, cc, l3, l4, hz, h1, h2, h3, K => by
    have kf := c_figOf (E := E) (c := c) (S := S) (fn := fn) (mn := mn) (od := od) (bd := bd) (lo := lo) (hi := hi) (oc := oc) (wi := wi) (sh := sh) (dl := dl) (OP := OP) hO hE hi' (show p < 8 by omega) hv hv2
    have l := l_lo1 (c := c) (S := S) (fn := fn) (mn := mn) (od := od) (bd := bd) (lo := lo) (hi := hi) (wi := wi) (sh := sh) (dl := dl) hO hE hi' (show p < 8 by omega) hv hv2 (Q := Q) 10 0 oc OP cc (by omega) h1 (by rw [if_neg (by omega)]; omega) h3 (fun oc' OP' cc' q1 q2 q3 q4 => by
      have ih := l_lo2 hO hE hi' hv hv2 (Q := Q) z (p + 1) oc' OP' cc' (some (.int (nI (fgN (V i) p)))) (some (.int (nI 10))) (by omega) q1 q2 q3 (fun oc'' OP'' cc'' l3 l4 p1 p2 p3 p4 => K oc'' OP'' cc'' l3 l4 p1 p2 p3 (frO_tr q4 p4))
      simp (disch := first | assumption | omega | decide | (simp only [List.length_cons, List.length_nil, Nat.reduceAdd, Nat.reduceLT]; done) | fail) only [r61_66, r61_69, oGF_is, WPo_some, List.getElem?_cons_succ, List.getElem?_cons_zero, kil_n, kil_i, kil_a, kil_u, kil_l, Option.toList_some, Option.toList_none, List.cons_append, List.nil_append, List.set_cons_succ, List.set_cons_zero, addm1, Nat.reduceAdd, List.length_cons, List.length_nil, Nat.reduceLT, nI_clamp, nI_toInt, nI_leL, nI_Lle, nI_ltL, nI_Llt, nI_eqL, nI_Leq, nI_leE, nI_ltE, nI_eqE, nI_eqM, nI_add, nI_addL, nI_Ladd, nI_mulL, nI_Lmul, pk_mul, pk_sub, nI_subL, nI_Lsub, i2l_nI, Int.toNat_natCast, Nat.not_lt_zero, Nat.zero_le, ifT, ifF, not_true_eq_false, not_false_eq_true, if_true, if_false, or_self, and_self, true_and, and_true, or_true, true_or, false_or, or_false, false_and, and_false]
      exact ih)
    rw [r61_9]
    simp (disch := first | assumption | omega | decide | (simp only [List.length_cons, List.length_nil, Nat.reduceAdd, Nat.reduceLT]; done) | fail) only [r61_10, r61_12, r61_15, r61_16, r61_17, r61_21, r61_22, r61_23, q61_18 kf (er_ci hO), oGF_is, WPo_some, List.getElem?_cons_succ, List.getElem?_cons_zero, kil_n, kil_i, kil_a, kil_u, kil_l, Option.toList_some, Option.toList_none, List.cons_append, List.nil_append, List.set_cons_succ, List.set_cons_zero, addm1, Nat.reduceAdd, List.length_cons, List.length_nil, Nat.reduceLT, nI_clamp, nI_toInt, nI_leL, nI_Lle, nI_ltL, nI_Llt, nI_eqL, nI_Leq, nI_leE, nI_ltE, nI_eqE, nI_eqM, nI_add, nI_addL, nI_Ladd, nI_mulL, nI_Lmul, pk_mul, pk_sub, nI_subL, nI_Lsub, i2l_nI, Int.toNat_natCast, Nat.not_lt_zero, Nat.zero_le, ifT, ifF, not_true_eq_false, not_false_eq_true, if_true, if_false, or_self, and_self, true_and, and_true, or_true, true_or, false_or, or_false, false_and, and_false]
    exact l
theorem l_lo3 (hO : XO E ah A) (hE : ErE E) {i : Nat} (hi' : i < 20) (hv : vl i = nI (V i)) (hv2 : V i ≤ 99999999) : ∀ z p oc OP cc l3 l4, p + z = 7 → oc i = nI cc → cc ≤ 72 + p → srS (fun q => (OP i q).toInt) cc (fun x => aD (V i) 8 0 x ∨ aW (V i) p x) → ∃ oc' OP' cc', WP E (c + 1) 61 74 [some (.ref (A 19)), some (.int (nI i)), some (.int (nI p)), l3, l4] [] (oh E ah A (eS A S fn mn od bd lo hi vl oc wi sh dl OP)) (fun r x => r = none ∧ x = oh E ah A (eS A S fn mn od bd lo hi vl oc' wi sh dl OP')) ∧ oc' i = nI cc' ∧ cc' ≤ 79 ∧ srS (fun q => (OP' i q).toInt) cc' (opN (V i)) ∧ frO i oc oc' OP OP'
  | 0, p, oc, OP, cc, l3, l4, hz, h1, h2, h3 => by
    rw [show p = 7 by omega] at h2 h3 ⊢
    refine ⟨oc, OP, cc, ?_, h1, h2, srS_iff h3 (fun x => op_all), fun q hq => ⟨rfl, rfl⟩⟩
    rw [r61_74]
    simp (disch := first | assumption | omega | decide | (simp only [List.length_cons, List.length_nil, Nat.reduceAdd, Nat.reduceLT]; done) | fail) only [r61_75, r61_76, r61_77, r61_79, r61_137, oGF_is, WPo_some, List.getElem?_cons_succ, List.getElem?_cons_zero, kil_n, kil_i, kil_a, kil_u, kil_l, Option.toList_some, Option.toList_none, List.cons_append, List.nil_append, List.set_cons_succ, List.set_cons_zero, addm1, Nat.reduceAdd, List.length_cons, List.length_nil, Nat.reduceLT, nI_clamp, nI_toInt, nI_leL, nI_Lle, nI_ltL, nI_Llt, nI_eqL, nI_Leq, nI_leE, nI_ltE, nI_eqE, nI_eqM, nI_add, nI_addL, nI_Ladd, nI_mulL, nI_Lmul, pk_mul, pk_sub, nI_subL, nI_Lsub, i2l_nI, Int.toNat_natCast, Nat.not_lt_zero, Nat.zero_le, ifT, ifF, not_true_eq_false, not_false_eq_true, if_true, if_false, or_self, and_self, true_and, and_true, or_true, true_or, false_or, or_false, false_and, and_false]
  | z + 1, p, oc, OP, cc, l3, l4, hz, h1, h2, h3 => by
    have kf := c_figOf (E := E) (c := c) (S := S) (fn := fn) (mn := mn) (od := od) (bd := bd) (lo := lo) (hi := hi) (oc := oc) (wi := wi) (sh := sh) (dl := dl) (OP := OP) hO hE hi' (show p < 8 by omega) hv hv2
    have kg := c_figOf (E := E) (c := c) (S := S) (fn := fn) (mn := mn) (od := od) (bd := bd) (lo := lo) (hi := hi) (oc := oc) (wi := wi) (sh := sh) (dl := dl) (OP := OP) hO hE hi' (show p + 1 < 8 by omega) hv hv2
    have g1 := fgN_lt (v := V i) (p := p)
    have g2 := fgN_lt (v := V i) (p := p + 1)
    have pre : ∀ Q : Option Value → aHp → Prop, WP E (c + 1) 61 98 [some (.ref (A 19)), some (.int (nI i)), some (.int (nI p)), some (.int (nI (fgN (V i) (p + 1)) - nI (fgN (V i) p))), l4] [] (oh E ah A (eS A S fn mn od bd lo hi vl oc wi sh dl OP)) Q → WP E (c + 1) 61 74 [some (.ref (A 19)), some (.int (nI i)), some (.int (nI p)), l3, l4] [] (oh E ah A (eS A S fn mn od bd lo hi vl oc wi sh dl OP)) Q := by
      intro Q w
      rw [r61_74]
      simp (disch := first | assumption | omega | decide | (simp only [List.length_cons, List.length_nil, Nat.reduceAdd, Nat.reduceLT]; done) | fail) only [r61_75, r61_76, r61_77, r61_79, r61_82, r61_83, r61_84, r61_85, r61_86, r61_90, r61_91, r61_92, r61_96, r61_97, q61_87 kg (er_ci hO), q61_93 kf (er_ci hO), nI_clamp, nI_leL, nI_Lle, nI_ltL, nI_Llt, nI_leE, nI_ltE, nI_eqE, nI_addL, ifT, ifF, Nat.not_lt_zero, Nat.zero_le, oGF_is, WPo_some, List.getElem?_cons_succ, List.getElem?_cons_zero, kil_n, kil_i, kil_a, kil_u, kil_l, Option.toList_some, Option.toList_none, List.cons_append, List.nil_append, List.set_cons_succ, List.set_cons_zero, addm1, Nat.reduceAdd, List.length_cons, List.length_nil, Nat.reduceLT, not_true_eq_false, not_false_eq_true, if_true, if_false, or_self, and_self, true_and, and_true, or_true, true_or, false_or, or_false, false_and, and_false]
      exact w
    have dz : (nI (fgN (V i) (p + 1)) - nI (fgN (V i) p) = (0 : Int32)) = (fgN (V i) (p + 1) = fgN (V i) p) := by
      apply propext
      constructor
      · intro w
        have := congrArg Int32.toInt w
        rw [ii_sub (by omega) (by omega)] at this
        have e : (0 : Int32).toInt = 0 := rfl
        omega
      · intro w
        rw [w, Int32.sub_self]
    by_cases y : fgN (V i) (p + 1) = fgN (V i) p
    · obtain ⟨oc', OP', cc', w, p1, p2, p3, p4⟩ := l_lo3 hO hE hi' hv hv2 z (p + 1) oc OP cc (some (.int (nI (fgN (V i) (p + 1)) - nI (fgN (V i) p)))) l4 (by omega) h1 (by omega) (srS_iff h3 (fun x => or_congr_right (aW_no y)))
      refine ⟨oc', OP', cc', pre _ ?_, p1, p2, p3, p4⟩
      have y0 : nI (fgN (V i) (p + 1)) - nI (fgN (V i) p) = (0 : Int32) := by rw [dz]; exact y
      rw [y0] at w ⊢
      simp (disch := first | assumption | omega | decide | (simp only [List.length_cons, List.length_nil, Nat.reduceAdd, Nat.reduceLT]; done) | fail) only [r61_98, r61_99, r61_131, r61_134, oGF_is, WPo_some, List.getElem?_cons_succ, List.getElem?_cons_zero, kil_n, kil_i, kil_a, kil_u, kil_l, Option.toList_some, Option.toList_none, List.cons_append, List.nil_append, List.set_cons_succ, List.set_cons_zero, addm1, Nat.reduceAdd, List.length_cons, List.length_nil, Nat.reduceLT, nI_clamp, nI_toInt, nI_leL, nI_Lle, nI_ltL, nI_Llt, nI_eqL, nI_Leq, nI_leE, nI_ltE, nI_eqE, nI_eqM, nI_add, nI_addL, nI_Ladd, nI_mulL, nI_Lmul, pk_mul, pk_sub, nI_subL, nI_Lsub, i2l_nI, Int.toNat_natCast, Nat.not_lt_zero, Nat.zero_le, ifT, ifF, not_true_eq_false, not_false_eq_true, if_true, if_false, or_self, and_self, true_and, and_true, or_true, true_or, false_or, or_false, false_and, and_false]
      exact w
    · obtain ⟨a0, a1, f0, f1, e0, e1, l0, l1, t0, t1, F0, F1⟩ := hE
      have lo1 : ∀ x : aHp, hg E x a1 = none := fun x => hg_low l1
      have f := F1 p (by omega)
      have f' := F1 (p + 1) (by omega)
      obtain ⟨g, k, hk⟩ := c_addOption (E := E) (c := c) (S := S) (fn := fn) (mn := mn) (od := od) (bd := bd) (lo := lo) (hi := hi) (vl := vl) (wi := wi) (sh := sh) (dl := dl) hO hi' h1 (show cc < 79 by omega) (x := nI (V i) + (nI (fgN (V i) (p + 1)) - nI (fgN (V i) p)) * nI (10 ^ p) - (nI (fgN (V i) (p + 1)) - nI (fgN (V i) p)) * nI (10 ^ (p + 1))) h3
      rw [opW_32 hv2 (by omega)] at hk
      obtain ⟨oc', OP', cc', w, p1, p2, p3, p4⟩ := l_lo3 hO ⟨a0, a1, f0, f1, e0, e1, l0, l1, t0, t1, F0, F1⟩ hi' hv hv2 z (p + 1) (upd oc i (nI (cc + 1))) (fnu OP i g) (cc + 1) (some (.int (nI (fgN (V i) (p + 1)) - nI (fgN (V i) p)))) l4 (by omega) upd_at (by omega) (by
        rw [fnu_at]
        refine srS_iff hk (fun x => ?_)
        rw [or_assoc]
        exact or_congr_right (aW_st y))
      refine ⟨oc', OP', cc', pre _ ?_, p1, p2, p3, frO_tr (fun q hq => ⟨upd_ne hq, fnu_ne hq⟩) p4⟩
      have y0 : ¬ nI (fgN (V i) (p + 1)) - nI (fgN (V i) p) = (0 : Int32) := by rw [dz]; exact y
      generalize nI (fgN (V i) (p + 1)) - nI (fgN (V i) p) = X at *
      simp (disch := first | assumption | omega | decide | (simp only [List.length_cons, List.length_nil, Nat.reduceAdd, Nat.reduceLT]; done) | fail) only [r61_98, r61_99, r61_102, r61_103, r61_104, r61_105, r61_108, r61_109, r61_110, r61_111, r61_114, r61_115, r61_116, r61_117, r61_118, r61_119, r61_122, r61_123, r61_124, r61_125, r61_126, r61_127, r61_131, r61_134, gC, e1, hr19 hO, hr20 hO, gI, lo1, t1, f, f', hv, y0, q61_128 k (er_ci hO), nI_clamp, nI_leL, nI_Lle, nI_ltL, nI_Llt, nI_leE, nI_ltE, nI_eqE, nI_addL, ifT, ifF, Nat.not_lt_zero, Nat.zero_le, oGF_is, WPo_some, List.getElem?_cons_succ, List.getElem?_cons_zero, kil_n, kil_i, kil_a, kil_u, kil_l, Option.toList_some, Option.toList_none, List.cons_append, List.nil_append, List.set_cons_succ, List.set_cons_zero, addm1, Nat.reduceAdd, List.length_cons, List.length_nil, Nat.reduceLT, not_true_eq_false, not_false_eq_true, if_true, if_false, or_self, and_self, true_and, and_true, or_true, true_or, false_or, or_false, false_and, and_false]
      exact w
theorem c_listOptions (hO : XO E ah A) (hE : ErE E) {i : Nat} (hi' : i < 20) (hv : vl i = nI (V i)) (hv2 : V i ≤ 99999999) {oc : Nat → Int32} {OP : Nat → Nat → Int32} : ∃ oc' OP' cc', EV E (c + 1) 61 [.ref (A 19), .int (nI i)] (oh E ah A (eS A S fn mn od bd lo hi vl oc wi sh dl OP)) none (oh E ah A (eS A S fn mn od bd lo hi vl oc' wi sh dl OP')) ∧ oc' i = nI cc' ∧ cc' ≤ 79 ∧ srS (fun q => (OP' i q).toInt) cc' (opN (V i)) ∧ frO i oc oc' OP OP' := by
  let Q : Option Value → aHp → Prop := fun r x => r = none ∧ ∃ oc' OP' cc', x = oh E ah A (eS A S fn mn od bd lo hi vl oc' wi sh dl OP') ∧ oc' i = nI cc' ∧ cc' ≤ 79 ∧ srS (fun q => (OP' i q).toInt) cc' (opN (V i)) ∧ frO i oc oc' OP OP'
  have main := l_lo2 (E := E) (c := c) (S := S) (fn := fn) (mn := mn) (od := od) (bd := bd) (lo := lo) (hi := hi) (wi := wi) (sh := sh) (dl := dl) hO hE hi' hv hv2 (Q := Q) 8 0 (upd oc i (nI 0)) OP 0 none none (by omega) upd_at (by omega) ⟨fun a b _ h => absurd h (by omega), fun x => ⟨fun z => absurd z aD_0, fun ⟨q, hq, _⟩ => absurd hq (by omega)⟩⟩ (fun oc1 OP1 cc1 l3 l4 q1 q2 q3 q4 => by
    obtain ⟨oc', OP', cc', w, p1, p2, p3, p4⟩ := l_lo3 (E := E) (c := c) (S := S) (fn := fn) (mn := mn) (od := od) (bd := bd) (lo := lo) (hi := hi) (wi := wi) (sh := sh) (dl := dl) hO hE hi' hv hv2 7 0 oc1 OP1 cc1 l3 l4 (by omega) q1 (by omega) (srS_iff q3 (fun x => ⟨Or.inl, fun z => by
      rcases z with z | ⟨p', h, -⟩
      · exact z
      · omega⟩))
    have w' := WP.mono w (Q' := Q) (by
      rintro r x ⟨e1, e2⟩
      exact ⟨e1, oc', OP', cc', e2, p1, p2, p3, frO_tr (fun q hq => ⟨upd_ne hq, rfl⟩) (frO_tr q4 p4)⟩)
    simp (disch := first | assumption | omega | decide | (simp only [List.length_cons, List.length_nil, Nat.reduceAdd, Nat.reduceLT]; done) | fail) only [r61_72, r61_73, oGF_is, WPo_some, List.getElem?_cons_succ, List.getElem?_cons_zero, kil_n, kil_i, kil_a, kil_u, kil_l, Option.toList_some, Option.toList_none, List.cons_append, List.nil_append, List.set_cons_succ, List.set_cons_zero, addm1, Nat.reduceAdd, List.length_cons, List.length_nil, Nat.reduceLT]
    exact w')
  obtain ⟨r1, x1, ⟨e1, oc', OP', cc', e2, p1, p2, p3, p4⟩, w⟩ := WP.ex main
  subst e1 e2
  refine ⟨oc', OP', cc', e61 ?_, p1, p2, p3, p4⟩
  rw [show nI 0 = (0 : Int32) from rfl] at w
  simp (disch := first | assumption | omega | decide | (simp only [List.length_cons, List.length_nil, Nat.reduceAdd, Nat.reduceLT]; done) | fail) only [r61_0, r61_1, r61_4, r61_5, r61_6, r61_7, r61_8, hr19 hO, hr43 hO, sr43 hO, pI, oGF_is, WPo_some, List.getElem?_cons_succ, List.getElem?_cons_zero, kil_n, kil_i, kil_a, kil_u, kil_l, Option.toList_some, Option.toList_none, List.cons_append, List.nil_append, List.set_cons_succ, List.set_cons_zero, addm1, Nat.reduceAdd, List.length_cons, List.length_nil, Nat.reduceLT, nI_clamp, nI_toInt, nI_leL, nI_Lle, nI_ltL, nI_Llt, nI_eqL, nI_Leq, nI_leE, nI_ltE, nI_eqE, nI_eqM, nI_add, nI_addL, nI_Ladd, nI_mulL, nI_Lmul, pk_mul, pk_sub, nI_subL, nI_Lsub, i2l_nI, Int.toNat_natCast, Nat.not_lt_zero, Nat.zero_le, ifT, ifF, not_true_eq_false, not_false_eq_true, if_true, if_false, or_self, and_self, true_and, and_true, or_true, true_or, false_or, or_false, false_and, and_false]
  exact w
end EX6

/-! Engines of the model: set, the call -/
section SEM3
variable {E : aEnv} {c m : Nat} {ah : aHp} {ma : Nat → Nat} {v : Nat → Value} {ai : Nat → Nat → Int32} {al : Nat → Nat → Int64} {en : Nat} {ax wh : Nat → Nat} {rx : Nat → Nat → Nat} {fg : Nat → Nat → Nat → Nat} {tu ms : Nat → Nat} {mq : Nat → Nat → Nat → Nat} {sr : Nat → Int32} {mn : Nat → Nat} {tn : Nat → Nat → Int64}
theorem l_smX (h : MO E ah m ma) {e axx whh n : Nat} {r : Nat → Nat} (hq : EQ ai e axx whh r) (hn : n ≤ axx) {V : Nat → Int} {D : Nat → Int64} (hD : ∀ x, x < axx → V x = if x < n then (D x).toInt else 0) (hV : ∀ x, x < axx → -2305843009213693952 ≤ V x ∧ V x ≤ 2305843009213693952) {l2 : Option Value} :
    ∀ z x F, x + z = axx → (∀ y w, y < x → w < whh → F (12 * (7 * e + y) + w) = nI (dgt (V y) r w)) → ∃ F', (∀ y w, y < axx → w < whh → F' (12 * (7 * e + y) + w) = nI (dgt (V y) r w)) ∧ same84 F F' e ∧ ∀ l5 l6 l7 l8 l9, WP E (c + 1) 218 169 [some (.ref m), some (.int (nI e)), l2, some (.int (nI n)), some (.int (nI x)), l5, l6, l7, l8, l9] [] (mh E ah m ma v (iu ai 10 F) (lu al 26 D)) (fun r1 x1 => r1 = some (.int 1) ∧ x1 = mh E ah m ma v (iu (iu ai 10 F') 8 (upd (ai 8) e 0)) (lu al 26 D))
  | 0, x, F, hz, hF => by
    obtain ⟨q1, q2, q3, q4, q5⟩ := hq
    refine ⟨F, fun y w hy hw => hF y w (by omega) hw, fun p hp => rfl, fun l5 l6 l7 l8 l9 => ?_⟩
    rw [show x = axx by omega, r218_169]
    simp (disch := first | assumption | omega | decide | (simp only [List.length_cons, List.length_nil, Nat.reduceAdd, Nat.reduceLT]; done) | fail) only [r218_171, r218_172, r218_175, r218_176, r218_177, r218_277, r218_278, r218_281, r218_282, r218_283, r218_284, r218_285 (x := 0) (Or.inl rfl), r218_285 (x := 1) (Or.inr rfl), r218_285 (b2i_or _), mh_o h, gm_6, gm_8, WPo_some, List.getElem?_cons_succ, List.getElem?_cons_zero, kil_n, kil_i, kil_a, kil_u, kil_l, Option.toList_some, Option.toList_none, List.cons_append, List.nil_append, List.set_cons_succ, List.set_cons_zero, addm1, Nat.reduceAdd, List.length_cons, List.length_nil, Nat.reduceLT, gI, pI, hm_6 h, hm_8 h, sm_8 h, iu_ne, q3, nI_clamp, nI_toInt, nI_leL, nI_Lle, nI_ltL, nI_Llt, nI_eqL, nI_Leq, nI_leE, nI_ltE, nI_eqE, nI_eqM, nI_add, nI_addL, nI_Ladd, nI_mulL, nI_Lmul, pk_mul, pk_sub, nI_subL, nI_Lsub, i2l_nI, Int.toNat_natCast, Nat.not_lt_zero, Nat.zero_le, ifT, ifF, not_true_eq_false, not_false_eq_true, if_true, if_false, or_self, and_self, true_and, and_true, or_true, true_or, false_or, or_false, false_and, and_false]
  | z + 1, x, F, hz, hF => by
    have hx : x < axx := by omega
    have hq0 := hq
    obtain ⟨q1, q2, q3, q4, q5⟩ := hq
    have v1 : iL (V x) = if x < n then D x else 0 := by
      rw [hD x hx]
      split
      · exact (iL_of (D x)).symm
      · rfl
    obtain ⟨F2, g1, g2, g3⟩ := l_smX h hq0 hn hD hV (l2 := l2) z (x + 1) (ovr F (12 * (7 * e + x)) whh (fun w => nI (dgt (V x) r w))) (by omega) (fun y w hy hw => by
      by_cases z : y = x
      · subst z
        rw [ovr_in hw]
      · rw [ovr_out (by omega)]
        exact hF y w (by omega) hw)
    refine ⟨F2, g1, s84_tr (fun p hp => ovr_out (by omega)) g2, fun l5 l6 l7 l8 l9 => ?_⟩
    have l := l_smW (c := c) (v := v) (al := lu al 26 D) h hq0 hx (hV x hx) (F := F) (l2 := l2) (l3 := some (.int (nI n))) (Q := fun r1 x1 => r1 = some (.int 1) ∧ x1 = mh E ah m ma v (iu (iu ai 10 F2) 8 (upd (ai 8) e 0)) (lu al 26 D)) (fun l5 l8 l9 => by
      have g := g3 l5 none (some (.int (nI whh))) l8 l9
      simp (disch := first | assumption | omega | decide | (simp only [List.length_cons, List.length_nil, Nat.reduceAdd, Nat.reduceLT]; done) | fail) only [r218_271, r218_274, WPo_some, List.getElem?_cons_succ, List.getElem?_cons_zero, kil_n, kil_i, kil_a, kil_u, kil_l, Option.toList_some, Option.toList_none, List.cons_append, List.nil_append, List.set_cons_succ, List.set_cons_zero, addm1, Nat.reduceAdd, List.length_cons, List.length_nil, Nat.reduceLT, nI_clamp, nI_toInt, nI_leL, nI_Lle, nI_ltL, nI_Llt, nI_eqL, nI_Leq, nI_leE, nI_ltE, nI_eqE, nI_eqM, nI_add, nI_addL, nI_Ladd, nI_mulL, nI_Lmul, pk_mul, pk_sub, nI_subL, nI_Lsub, i2l_nI, Int.toNat_natCast, Nat.not_lt_zero, Nat.zero_le, ifT, ifF, not_true_eq_false, not_false_eq_true, if_true, if_false, or_self, and_self, true_and, and_true, or_true, true_or, false_or, or_false, false_and, and_false]
      exact g) whh 0 l8 l9 (by omega)
    rw [ovr_0, show ((wt r 0 : Nat) : Int) = 1 from rfl, Int.ediv_one, v1] at l
    rw [r218_169]
    by_cases z : x < n
    · rw [if_pos z] at l
      simp (disch := first | assumption | omega | decide | (simp only [List.length_cons, List.length_nil, Nat.reduceAdd, Nat.reduceLT]; done) | fail) only [r218_171, r218_172, r218_175, r218_176, r218_177, r218_180, r218_182, r218_183, r218_186, r218_187, r218_190, r218_192, r218_193, r218_196, r218_197, r218_199, r218_200, mh_o h, gm_6, gm_26, WPo_some, List.getElem?_cons_succ, List.getElem?_cons_zero, kil_n, kil_i, kil_a, kil_u, kil_l, Option.toList_some, Option.toList_none, List.cons_append, List.nil_append, List.set_cons_succ, List.set_cons_zero, addm1, Nat.reduceAdd, List.length_cons, List.length_nil, Nat.reduceLT, gI, gL, hm_6 h, hm_26 h, iu_ne, lu_at, q3, nI_clamp, nI_toInt, nI_leL, nI_Lle, nI_ltL, nI_Llt, nI_eqL, nI_Leq, nI_leE, nI_ltE, nI_eqE, nI_eqM, nI_add, nI_addL, nI_Ladd, nI_mulL, nI_Lmul, pk_mul, pk_sub, nI_subL, nI_Lsub, i2l_nI, Int.toNat_natCast, Nat.not_lt_zero, Nat.zero_le, ifT, ifF, not_true_eq_false, not_false_eq_true, if_true, if_false, or_self, and_self, true_and, and_true, or_true, true_or, false_or, or_false, false_and, and_false]
      exact l
    · rw [if_neg z] at l
      simp (disch := first | assumption | omega | decide | (simp only [List.length_cons, List.length_nil, Nat.reduceAdd, Nat.reduceLT]; done) | fail) only [r218_171, r218_172, r218_175, r218_176, r218_177, r218_180, r218_182, r218_183, r218_186, r218_187, r218_190, r218_192, r218_193, r218_196, r218_197, r218_199, r218_200, mh_o h, gm_6, gm_26, WPo_some, List.getElem?_cons_succ, List.getElem?_cons_zero, kil_n, kil_i, kil_a, kil_u, kil_l, Option.toList_some, Option.toList_none, List.cons_append, List.nil_append, List.set_cons_succ, List.set_cons_zero, addm1, Nat.reduceAdd, List.length_cons, List.length_nil, Nat.reduceLT, gI, gL, hm_6 h, hm_26 h, iu_ne, lu_at, q3, nI_clamp, nI_toInt, nI_leL, nI_Lle, nI_ltL, nI_Llt, nI_eqL, nI_Leq, nI_leE, nI_ltE, nI_eqE, nI_eqM, nI_add, nI_addL, nI_Ladd, nI_mulL, nI_Lmul, pk_mul, pk_sub, nI_subL, nI_Lsub, i2l_nI, Int.toNat_natCast, Nat.not_lt_zero, Nat.zero_le, ifT, ifF, not_true_eq_false, not_false_eq_true, if_true, if_false, or_self, and_self, true_and, and_true, or_true, true_or, false_or, or_false, false_and, and_false]
      exact l
/-- the loop that looks the numbers over -/
theorem l_smL (h : MO E ah m ma) (hT : TM ai al sr mn tn) {j n : Nat} (hj : j < 4) (hn : n ≤ mn j) (hn7 : n ≤ 7) {l1 : Option Value} {l5 l6 l7 l8 l9 : Option Value} {Q : Option Value → aHp → Prop} (K1 : (∀ k, k < n → -1000000000 ≤ tn j k ∧ tn j k ≤ 1000000000) → WP E (c + 1) 218 132 [some (.ref m), l1, some (.int (nI j)), some (.int (nI n)), some (.int (nI n)), l5, l6, l7, l8, l9] [] (mh E ah m ma v ai al) Q) (K2 : ¬ (∀ k, k < n → -1000000000 ≤ tn j k ∧ tn j k ≤ 1000000000) → Q (some (.int 0)) (mh E ah m ma (vu v 0 (.int 5)) ai al)) :
    ∀ z i, i + z = n → (∀ k, k < i → -1000000000 ≤ tn j k ∧ tn j k ≤ 1000000000) → WP E (c + 1) 218 95 [some (.ref m), l1, some (.int (nI j)), some (.int (nI n)), some (.int (nI i)), l5, l6, l7, l8, l9] [] (mh E ah m ma v ai al) Q
  | 0, i, hz, hi => by
    rw [show i = n by omega, r218_95]
    simp (disch := first | assumption | omega | decide | (simp only [List.length_cons, List.length_nil, Nat.reduceAdd, Nat.reduceLT]; done) | fail) only [r218_97, r218_98, WPo_some, List.getElem?_cons_succ, List.getElem?_cons_zero, kil_n, kil_i, kil_a, kil_u, kil_l, Option.toList_some, Option.toList_none, List.cons_append, List.nil_append, List.set_cons_succ, List.set_cons_zero, addm1, Nat.reduceAdd, List.length_cons, List.length_nil, Nat.reduceLT, nI_clamp, nI_toInt, nI_leL, nI_Lle, nI_ltL, nI_Llt, nI_eqL, nI_Leq, nI_leE, nI_ltE, nI_eqE, nI_eqM, nI_add, nI_addL, nI_Ladd, nI_mulL, nI_Lmul, pk_mul, pk_sub, nI_subL, nI_Lsub, i2l_nI, Int.toNat_natCast, Nat.not_lt_zero, Nat.zero_le, ifT, ifF, not_true_eq_false, not_false_eq_true, if_true, if_false, or_self, and_self, true_and, and_true, or_true, true_or, false_or, or_false, false_and, and_false]
    exact K1 (fun k hk => hi k (by omega))
  | z + 1, i, hz, hi => by
    rw [r218_95]
    by_cases hc : -1000000000 ≤ tn j i ∧ tn j i ≤ 1000000000
    · have ih := l_smL h hT hj hn hn7 K1 K2 z (i + 1) (by omega) (fun k hk => by
        by_cases y : k = i
        · rw [y]; exact hc
        · exact hi k (by omega))
      simp (disch := first | assumption | omega | decide | (simp only [List.length_cons, List.length_nil, Nat.reduceAdd, Nat.reduceLT]; done) | fail) only [r218_97, r218_98, r218_101, r218_102, r218_103, r218_108, r218_111, r218_117, r218_120, r218_121, r218_125 (x := 0) (Or.inl rfl), r218_125 (x := 1) (Or.inr rfl), r218_125 (b2i_or _), r218_126, r218_129, q218_105 (m_numberOf h hT hj (show i < mn j by omega)) h.ci, q218_114 m_isIn, WPo_some, List.getElem?_cons_succ, List.getElem?_cons_zero, kil_n, kil_i, kil_a, kil_u, kil_l, Option.toList_some, Option.toList_none, List.cons_append, List.nil_append, List.set_cons_succ, List.set_cons_zero, addm1, Nat.reduceAdd, List.length_cons, List.length_nil, Nat.reduceLT, nI_clamp, nI_toInt, nI_leL, nI_Lle, nI_ltL, nI_Llt, nI_eqL, nI_Leq, nI_leE, nI_ltE, nI_eqE, nI_eqM, nI_add, nI_addL, nI_Ladd, nI_mulL, nI_Lmul, pk_mul, pk_sub, nI_subL, nI_Lsub, i2l_nI, Int.toNat_natCast, Nat.not_lt_zero, Nat.zero_le, ifT, ifF, not_true_eq_false, not_false_eq_true, if_true, if_false, or_self, and_self, true_and, and_true, or_true, true_or, false_or, or_false, false_and, and_false, b2i_eq0, hc]
      exact ih
    · have K := K2 (fun y => hc (y i (by omega)))
      simp (disch := first | assumption | omega | decide | (simp only [List.length_cons, List.length_nil, Nat.reduceAdd, Nat.reduceLT]; done) | fail) only [r218_97, r218_98, r218_101, r218_102, r218_103, r218_108, r218_111, r218_117, r218_120, r218_121, r218_125 (x := 0) (Or.inl rfl), r218_125 (x := 1) (Or.inr rfl), r218_125 (b2i_or _), q218_105 (m_numberOf h hT hj (show i < mn j by omega)) h.ci, q218_114 m_isIn, q218_122 (m_no h) h.ci, WPo_some, List.getElem?_cons_succ, List.getElem?_cons_zero, kil_n, kil_i, kil_a, kil_u, kil_l, Option.toList_some, Option.toList_none, List.cons_append, List.nil_append, List.set_cons_succ, List.set_cons_zero, addm1, Nat.reduceAdd, List.length_cons, List.length_nil, Nat.reduceLT, nI_clamp, nI_toInt, nI_leL, nI_Lle, nI_ltL, nI_Llt, nI_eqL, nI_Leq, nI_leE, nI_ltE, nI_eqE, nI_eqM, nI_add, nI_addL, nI_Ladd, nI_mulL, nI_Lmul, pk_mul, pk_sub, nI_subL, nI_Lsub, i2l_nI, Int.toNat_natCast, Nat.not_lt_zero, Nat.zero_le, ifT, ifF, not_true_eq_false, not_false_eq_true, if_true, if_false, or_self, and_self, true_and, and_true, or_true, true_or, false_or, or_false, false_and, and_false, b2i_eq0, hc]
      exact K
theorem l_smC (h : MO E ah m ma) {j n : Nat} (hj : j < 4) (hn : n ≤ mn j) (hn7 : n ≤ 7) {l1 : Option Value} {l5 l6 l7 l8 l9 : Option Value} {N0 : Nat → Int64} {Q : Option Value → aHp → Prop} (K : WP E (c + 1) 218 161 [some (.ref m), l1, some (.int (nI j)), some (.int (nI n)), some (.int (nI n)), l5, l6, l7, l8, l9] [] (mh E ah m ma v ai (lu al 26 (ovr N0 0 n (tn j)))) Q) :
    ∀ z i, i + z = n → TM ai al sr mn tn → WP E (c + 1) 218 135 [some (.ref m), l1, some (.int (nI j)), some (.int (nI n)), some (.int (nI i)), l5, l6, l7, l8, l9] [] (mh E ah m ma v ai (lu al 26 (ovr N0 0 i (tn j)))) Q
  | 0, i, hz, hT => by
    rw [show i = n by omega, r218_135]
    simp (disch := first | assumption | omega | decide | (simp only [List.length_cons, List.length_nil, Nat.reduceAdd, Nat.reduceLT]; done) | fail) only [r218_137, r218_138, WPo_some, List.getElem?_cons_succ, List.getElem?_cons_zero, kil_n, kil_i, kil_a, kil_u, kil_l, Option.toList_some, Option.toList_none, List.cons_append, List.nil_append, List.set_cons_succ, List.set_cons_zero, addm1, Nat.reduceAdd, List.length_cons, List.length_nil, Nat.reduceLT, nI_clamp, nI_toInt, nI_leL, nI_Lle, nI_ltL, nI_Llt, nI_eqL, nI_Leq, nI_leE, nI_ltE, nI_eqE, nI_eqM, nI_add, nI_addL, nI_Ladd, nI_mulL, nI_Lmul, pk_mul, pk_sub, nI_subL, nI_Lsub, i2l_nI, Int.toNat_natCast, Nat.not_lt_zero, Nat.zero_le, ifT, ifF, not_true_eq_false, not_false_eq_true, if_true, if_false, or_self, and_self, true_and, and_true, or_true, true_or, false_or, or_false, false_and, and_false]
    exact K
  | z + 1, i, hz, hT => by
    have ih := l_smC h hj hn hn7 K z (i + 1) (by omega) hT
    have hT2 : TM ai (lu al 26 (ovr N0 0 i (tn j))) sr mn tn := TM_fr hT (fun k hk => rfl) (lu_ne (by decide))
    have m2 := vupd_ovr (F := N0) (i := i) (h := tn j) (x := tn j i) rfl
    rw [r218_135]
    simp (disch := first | assumption | omega | decide | (simp only [List.length_cons, List.length_nil, Nat.reduceAdd, Nat.reduceLT]; done) | fail) only [r218_137, r218_138, r218_141, r218_142, r218_145, r218_147, r218_148, r218_149, r218_154, r218_155, r218_158, q218_151 (m_numberOf h hT2 hj (show i < mn j by omega)) h.ci, mh_o h, gm_26, WPo_some, List.getElem?_cons_succ, List.getElem?_cons_zero, kil_n, kil_i, kil_a, kil_u, kil_l, Option.toList_some, Option.toList_none, List.cons_append, List.nil_append, List.set_cons_succ, List.set_cons_zero, addm1, Nat.reduceAdd, List.length_cons, List.length_nil, Nat.reduceLT, nI_clamp, nI_toInt, nI_leL, nI_Lle, nI_ltL, nI_Llt, nI_eqL, nI_Leq, nI_leE, nI_ltE, nI_eqE, nI_eqM, nI_add, nI_addL, nI_Ladd, nI_mulL, nI_Lmul, pk_mul, pk_sub, nI_subL, nI_Lsub, i2l_nI, Int.toNat_natCast, Nat.not_lt_zero, Nat.zero_le, ifT, ifF, not_true_eq_false, not_false_eq_true, if_true, if_false, or_self, and_self, true_and, and_true, or_true, true_or, false_or, or_false, false_and, and_false, pL, hm_26 h, sm_26 h, lu_at, lu_lu, m2]
    exact ih
end SEM3

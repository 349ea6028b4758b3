/-! The model's finer table: turning -/
section MT
variable {E : aEnv} {c m : Nat} {ah : aHp} {ma : Nat → Nat} {v : Nat → Value} {ai : Nat → Nat → Int32} {al : Nat → Nat → Int64} {k : Nat} {a2 a3 a4 a5 a6 a7 a8 l11 : Option Value} {n9 : Int32} {Q : Option Value → aHp → Prop}
theorem l_mt1 (h : MO E ah m ma) (hk : k ≤ 4) : ∀ z x D, x ≤ 6 → k + 1 ≤ x + 2 * z → (∀ l10, WP E c 235 180 [some (.ref m), some (.int (nI k)), a2, a3, a4, a5, a6, a7, a8, some (.int n9), l10, l11] [] (mh E ah m ma v ai (lu al 26 (adL (k + 1) z x D))) Q) → WP E c 235 149 [some (.ref m), some (.int (nI k)), a2, a3, a4, a5, a6, a7, a8, some (.int n9), some (.int (nI (x + 1))), l11] [] (mh E ah m ma v ai (lu al 26 D)) Q
  | 0, x, D, hx, hz, K => by
    have K := K (some (.int (nI (x + 1))))
    rw [r235_149]
    simp (disch := first | assumption | omega | decide | (simp only [List.length_cons, List.length_nil, Nat.reduceAdd, Nat.reduceLT]; done) | fail) only [r235_151, r235_152, WPo_some, List.getElem?_cons_succ, List.getElem?_cons_zero, kil_n, kil_i, kil_a, kil_u, kil_l, Option.toList_some, Option.toList_none, List.cons_append, List.nil_append, List.set_cons_succ, List.set_cons_zero, addm1, Nat.reduceAdd, List.length_cons, List.length_nil, Nat.reduceLT, nI_clamp, nI_toInt, nI_leL, nI_Lle, nI_ltL, nI_Llt, nI_eqL, nI_Leq, nI_leE, nI_ltE, nI_eqE, nI_eqM, nI_add, nI_addL, nI_Ladd, nI_mulL, nI_Lmul, pk_mul, pk_sub, nI_subL, nI_Lsub, i2l_nI, Int.toNat_natCast, Nat.not_lt_zero, Nat.zero_le, ifT, ifF, not_true_eq_false, not_false_eq_true, if_true, if_false, or_self, and_self, true_and, and_true, or_true, true_or, false_or, or_false, false_and, and_false]
    exact K
  | z + 1, x, D, hx, hz, K => by
    rw [r235_149]
    by_cases y : x + 1 < k + 1
    · have ih := l_mt1 h hk z (x + 2) (vp_updL D x (D x + D (x + 1))) (by omega) (by omega) (fun l10 => by
        have K := K l10
        unfold adL at K
        rw [if_pos y] at K
        exact K)
      simp (disch := first | assumption | omega | decide | (simp only [List.length_cons, List.length_nil, Nat.reduceAdd, Nat.reduceLT]; done) | fail) only [r235_151, r235_152, r235_155, r235_156, r235_159, r235_161, r235_162, r235_163, r235_163l, r235_164, r235_165, r235_166, r235_169, r235_171, r235_172, r235_173, r235_174, r235_177, mh_o h, gm_26, gL, pL, hm_26 h, sm_26 h, lu_at, lu_lu, WPo_some, List.getElem?_cons_succ, List.getElem?_cons_zero, kil_n, kil_i, kil_a, kil_u, kil_l, Option.toList_some, Option.toList_none, List.cons_append, List.nil_append, List.set_cons_succ, List.set_cons_zero, addm1, Nat.reduceAdd, List.length_cons, List.length_nil, Nat.reduceLT, nI_clamp, nI_toInt, nI_leL, nI_Lle, nI_ltL, nI_Llt, nI_eqL, nI_Leq, nI_leE, nI_ltE, nI_eqE, nI_eqM, nI_add, nI_addL, nI_Ladd, nI_mulL, nI_Lmul, pk_mul, pk_sub, nI_subL, nI_Lsub, i2l_nI, Int.toNat_natCast, Nat.not_lt_zero, Nat.zero_le, ifT, ifF, not_true_eq_false, not_false_eq_true, if_true, if_false, or_self, and_self, true_and, and_true, or_true, true_or, false_or, or_false, false_and, and_false, Nat.add_sub_cancel]
      exact ih
    · have K := K (some (.int (nI (x + 1))))
      unfold adL at K
      rw [if_neg y] at K
      simp (disch := first | assumption | omega | decide | (simp only [List.length_cons, List.length_nil, Nat.reduceAdd, Nat.reduceLT]; done) | fail) only [r235_151, r235_152, WPo_some, List.getElem?_cons_succ, List.getElem?_cons_zero, kil_n, kil_i, kil_a, kil_u, kil_l, Option.toList_some, Option.toList_none, List.cons_append, List.nil_append, List.set_cons_succ, List.set_cons_zero, addm1, Nat.reduceAdd, List.length_cons, List.length_nil, Nat.reduceLT, nI_clamp, nI_toInt, nI_leL, nI_Lle, nI_ltL, nI_Llt, nI_eqL, nI_Leq, nI_leE, nI_ltE, nI_eqE, nI_eqM, nI_add, nI_addL, nI_Ladd, nI_mulL, nI_Lmul, pk_mul, pk_sub, nI_subL, nI_Lsub, i2l_nI, Int.toNat_natCast, Nat.not_lt_zero, Nat.zero_le, ifT, ifF, not_true_eq_false, not_false_eq_true, if_true, if_false, or_self, and_self, true_and, and_true, or_true, true_or, false_or, or_false, false_and, and_false]
      exact K
theorem l_mt2 (h : MO E ah m ma) (hk : k ≤ 4) : ∀ z x D, x ≤ 7 → k + 1 ≤ x + 2 * z → (∀ l10, WP E c 235 214 [some (.ref m), some (.int (nI k)), a2, a3, a4, a5, a6, a7, a8, some (.int n9), l10, l11] [] (mh E ah m ma v ai (lu al 26 (adL (k + 1) z x D))) Q) → WP E c 235 183 [some (.ref m), some (.int (nI k)), a2, a3, a4, a5, a6, a7, a8, some (.int n9), some (.int (nI (x + 1))), l11] [] (mh E ah m ma v ai (lu al 26 D)) Q
  | 0, x, D, hx, hz, K => by
    have K := K (some (.int (nI (x + 1))))
    rw [r235_183]
    simp (disch := first | assumption | omega | decide | (simp only [List.length_cons, List.length_nil, Nat.reduceAdd, Nat.reduceLT]; done) | fail) only [r235_185, r235_186, WPo_some, List.getElem?_cons_succ, List.getElem?_cons_zero, kil_n, kil_i, kil_a, kil_u, kil_l, Option.toList_some, Option.toList_none, List.cons_append, List.nil_append, List.set_cons_succ, List.set_cons_zero, addm1, Nat.reduceAdd, List.length_cons, List.length_nil, Nat.reduceLT, nI_clamp, nI_toInt, nI_leL, nI_Lle, nI_ltL, nI_Llt, nI_eqL, nI_Leq, nI_leE, nI_ltE, nI_eqE, nI_eqM, nI_add, nI_addL, nI_Ladd, nI_mulL, nI_Lmul, pk_mul, pk_sub, nI_subL, nI_Lsub, i2l_nI, Int.toNat_natCast, Nat.not_lt_zero, Nat.zero_le, ifT, ifF, not_true_eq_false, not_false_eq_true, if_true, if_false, or_self, and_self, true_and, and_true, or_true, true_or, false_or, or_false, false_and, and_false]
    exact K
  | z + 1, x, D, hx, hz, K => by
    rw [r235_183]
    by_cases y : x + 1 < k + 1
    · have ih := l_mt2 h hk z (x + 2) (vp_updL D x (D x + D (x + 1))) (by omega) (by omega) (fun l10 => by
        have K := K l10
        unfold adL at K
        rw [if_pos y] at K
        exact K)
      simp (disch := first | assumption | omega | decide | (simp only [List.length_cons, List.length_nil, Nat.reduceAdd, Nat.reduceLT]; done) | fail) only [r235_185, r235_186, r235_189, r235_190, r235_193, r235_195, r235_196, r235_197, r235_197l, r235_198, r235_199, r235_200, r235_203, r235_205, r235_206, r235_207, r235_208, r235_211, mh_o h, gm_26, gL, pL, hm_26 h, sm_26 h, lu_at, lu_lu, WPo_some, List.getElem?_cons_succ, List.getElem?_cons_zero, kil_n, kil_i, kil_a, kil_u, kil_l, Option.toList_some, Option.toList_none, List.cons_append, List.nil_append, List.set_cons_succ, List.set_cons_zero, addm1, Nat.reduceAdd, List.length_cons, List.length_nil, Nat.reduceLT, nI_clamp, nI_toInt, nI_leL, nI_Lle, nI_ltL, nI_Llt, nI_eqL, nI_Leq, nI_leE, nI_ltE, nI_eqE, nI_eqM, nI_add, nI_addL, nI_Ladd, nI_mulL, nI_Lmul, pk_mul, pk_sub, nI_subL, nI_Lsub, i2l_nI, Int.toNat_natCast, Nat.not_lt_zero, Nat.zero_le, ifT, ifF, not_true_eq_false, not_false_eq_true, if_true, if_false, or_self, and_self, true_and, and_true, or_true, true_or, false_or, or_false, false_and, and_false, Nat.add_sub_cancel]
      exact ih
    · have K := K (some (.int (nI (x + 1))))
      unfold adL at K
      rw [if_neg y] at K
      simp (disch := first | assumption | omega | decide | (simp only [List.length_cons, List.length_nil, Nat.reduceAdd, Nat.reduceLT]; done) | fail) only [r235_185, r235_186, WPo_some, List.getElem?_cons_succ, List.getElem?_cons_zero, kil_n, kil_i, kil_a, kil_u, kil_l, Option.toList_some, Option.toList_none, List.cons_append, List.nil_append, List.set_cons_succ, List.set_cons_zero, addm1, Nat.reduceAdd, List.length_cons, List.length_nil, Nat.reduceLT, nI_clamp, nI_toInt, nI_leL, nI_Lle, nI_ltL, nI_Llt, nI_eqL, nI_Leq, nI_leE, nI_ltE, nI_eqE, nI_eqM, nI_add, nI_addL, nI_Ladd, nI_mulL, nI_Lmul, pk_mul, pk_sub, nI_subL, nI_Lsub, i2l_nI, Int.toNat_natCast, Nat.not_lt_zero, Nat.zero_le, ifT, ifF, not_true_eq_false, not_false_eq_true, if_true, if_false, or_self, and_self, true_and, and_true, or_true, true_or, false_or, or_false, false_and, and_false]
      exact K
end MT

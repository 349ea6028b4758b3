/-! Jobs of the model: all ways -/
section JM2
variable {E : aEnv} {c m : Nat} {ah : aHp} {ma : Nat → Nat} {v : Nat → Value} {ai : Nat → Nat → Int32} {al : Nat → Nat → Int64} {en : Nat} {ax wh : Nat → Nat} {rx : Nat → Nat → Nat} {fg : Nat → Nat → Nat → Nat} {tu ms : Nat → Nat} {mq : Nat → Nat → Nat → Nat} {jn : Nat} {ja jw jt : Nat → Nat}
theorem pow_le4 (h4 : en ≤ 4) {k : Nat} (hk : k ≤ 7) : en ^ k ≤ 16384 := by
  have h1 : en ^ k ≤ 4 ^ k := Nat.pow_le_pow_left h4 k
  have h2 : (4 : Nat) ^ k ≤ 4 ^ 7 := Nat.pow_le_pow_right (by decide) hk
  have h3 : (4 : Nat) ^ 7 = 16384 := by decide
  omega
theorem l_ways (h : MO E ah m ma) (h4 : en ≤ 4) (hv : v 5 = .int (nI en)) (h7 : jn ≤ 7) (hv2 : v 82 = .int (nI jn)) {Q : Option Value → aHp → Prop} (K : WP E c 285 25 [some (.ref m), some (.int (nI (en ^ jn))), some (.int (nI jn)), none, none, none, none] [] (mh E ah m ma v ai al) Q) : ∀ z j, j + z = jn → WP E c 285 4 [some (.ref m), some (.int (nI (en ^ j))), some (.int (nI j)), none, none, none, none] [] (mh E ah m ma v ai al) Q
  | 0, j, hz => by
    rw [show j = jn by omega, r285_4]
    simp (disch := first | assumption | omega | decide | (simp only [List.length_cons, List.length_nil, Nat.reduceAdd, Nat.reduceLT]; done) | fail) only [r285_5, r285_6, r285_9, mh_o h, gm_82, hv2, WPo_some, List.getElem?_cons_succ, List.getElem?_cons_zero, kil_n, kil_i, kil_a, kil_u, kil_l, Option.toList_some, Option.toList_none, List.cons_append, List.nil_append, List.set_cons_succ, List.set_cons_zero, addm1, Nat.reduceAdd, List.length_cons, List.length_nil, Nat.reduceLT, nI_clamp, nI_toInt, nI_leL, nI_Lle, nI_ltL, nI_Llt, nI_eqL, nI_Leq, nI_leE, nI_ltE, nI_eqE, nI_eqM, nI_add, nI_addL, nI_Ladd, nI_mulL, nI_Lmul, pk_mul, pk_sub, nI_subL, nI_Lsub, i2l_nI, Int.toNat_natCast, Nat.not_lt_zero, Nat.zero_le, ifT, ifF, not_true_eq_false, not_false_eq_true, if_true, if_false, or_self, and_self, true_and, and_true, or_true, true_or, false_or, or_false, false_and, and_false]
    exact K
  | z + 1, j, hz => by
    have ih := l_ways h h4 hv h7 hv2 K z (j + 1) (by omega)
    rw [Nat.pow_succ] at ih
    rw [r285_4]
    simp (disch := first | assumption | omega | decide | (simp only [List.length_cons, List.length_nil, Nat.reduceAdd, Nat.reduceLT]; done) | fail) only [r285_5, r285_6, r285_9, r285_12, r285_13, r285_14, r285_17, r285_18, r285_19, r285_22, mh_o h, gm_82, gm_5, hv, hv2, WPo_some, List.getElem?_cons_succ, List.getElem?_cons_zero, kil_n, kil_i, kil_a, kil_u, kil_l, Option.toList_some, Option.toList_none, List.cons_append, List.nil_append, List.set_cons_succ, List.set_cons_zero, addm1, Nat.reduceAdd, List.length_cons, List.length_nil, Nat.reduceLT, nI_clamp, nI_toInt, nI_leL, nI_Lle, nI_ltL, nI_Llt, nI_eqL, nI_Leq, nI_leE, nI_ltE, nI_eqE, nI_eqM, nI_add, nI_addL, nI_Ladd, nI_mulL, nI_Lmul, pk_mul, pk_sub, nI_subL, nI_Lsub, i2l_nI, Int.toNat_natCast, Nat.not_lt_zero, Nat.zero_le, ifT, ifF, not_true_eq_false, not_false_eq_true, if_true, if_false, or_self, and_self, true_and, and_true, or_true, true_or, false_or, or_false, false_and, and_false]
    exact ih
/-- the figures of a way -/
theorem l_digs (h : MO E ah m ma) (h4 : en ≤ 4) (hv : v 5 = .int (nI en)) (h7 : jn ≤ 7) {w : Nat} (hw : w < en ^ jn) {l1 l2 l3 l6 : Option Value} {Q : Option Value → aHp → Prop} (K : ∀ TR, (∀ k, k < jn → TR k = nI (w / en ^ (jn - 1 - k) % en)) → WP E c 285 79 [some (.ref m), l1, l2, l3, some (.int (nI (w / en ^ jn))), some (.int (-1)), l6] [] (mh E ah m ma v (iu ai 94 TR) al) Q) : ∀ j z TR, j + z = jn → (∀ k, j ≤ k → k < jn → TR k = nI (w / en ^ (jn - 1 - k) % en)) → WP E c 285 45 [some (.ref m), l1, l2, l3, some (.int (nI (w / en ^ z))), some (.int (nI j - 1)), l6] [] (mh E ah m ma v (iu ai 94 TR) al) Q
  | 0, z, TR, hz, hT => by
    have K := K TR (fun k hk => hT k (by omega) hk)
    rw [show z = jn by omega, r285_45]
    simp (disch := first | assumption | omega | decide | (simp only [List.length_cons, List.length_nil, Nat.reduceAdd, Nat.reduceLT]; done) | fail) only [r285_47, WPo_some, List.getElem?_cons_succ, List.getElem?_cons_zero, kil_n, kil_i, kil_a, kil_u, kil_l, Option.toList_some, Option.toList_none, List.cons_append, List.nil_append, List.set_cons_succ, List.set_cons_zero, addm1, Nat.reduceAdd, List.length_cons, List.length_nil, Nat.reduceLT, show (nI 0 - 1 : Int32) = -1 by decide, show (-1 : Int32) < 0 by decide, not_true_eq_false, not_false_eq_true, if_true, if_false, or_self, and_self, true_and, and_true, or_true, true_or, false_or, or_false, false_and, and_false]
    exact K
  | j + 1, z, TR, hz, hT => by
    have p1 := pow_le4 h4 h7
    have e1 : 1 ≤ en := by
      apply Classical.byContradiction
      intro y
      rw [show en = 0 by omega, Nat.zero_pow (by omega)] at hw
      omega
    have d1 : w / en ^ z ≤ w := Nat.div_le_self _ _
    have d2 : w / en ^ z / en = w / en ^ (z + 1) := by rw [Nat.div_div_eq_div_mul, Nat.pow_succ]
    have y0 : ¬ nI en = 0 := by rw [nI_eqL (by omega) (by decide)]; omega
    have d3 : w / en ^ z / en * en ≤ w / en ^ z := Nat.div_mul_le_self _ _
    have d4 : w / en ^ z - w / en ^ z / en * en = w / en ^ z % en := by
      have := Nat.div_add_mod (w / en ^ z) en
      rw [Nat.mul_comm] at this
      omega
    have ih := l_digs h h4 hv h7 hw K j (z + 1) (upd TR j (nI (w / en ^ z % en))) (by omega) (fun k h1 h2 => by
      unfold upd
      by_cases y : k = j
      · rw [if_pos y, y, show jn - 1 - j = z by omega]
      · rw [if_neg y]
        exact hT k (by omega) h2)
    rw [← d2] at ih
    rw [r285_45]
    simp (disch := first | assumption | omega | decide | (simp only [List.length_cons, List.length_nil, Nat.reduceAdd, Nat.reduceLT]; done) | fail) only [r285_47, r285_50, r285_51, r285_54, r285_56, r285_58, r285_59, r285_63, r285_64, r285_66, r285_67, r285_71, r285_73, r285_76, r285_62, r285_70, mh_o h, gm_5, gm_94, hv, WPo_some, List.getElem?_cons_succ, List.getElem?_cons_zero, kil_n, kil_i, kil_a, kil_u, kil_l, Option.toList_some, Option.toList_none, List.cons_append, List.nil_append, List.set_cons_succ, List.set_cons_zero, addm1, Nat.reduceAdd, List.length_cons, List.length_nil, Nat.reduceLT, pI, hm_94 h, sm_94 h, iu_at, iu_iu, nI_div, d4, nI_clamp, nI_toInt, nI_leL, nI_Lle, nI_ltL, nI_Llt, nI_eqL, nI_Leq, nI_leE, nI_ltE, nI_eqE, nI_eqM, nI_add, nI_addL, nI_Ladd, nI_mulL, nI_Lmul, pk_mul, pk_sub, nI_subL, nI_Lsub, i2l_nI, Int.toNat_natCast, Nat.not_lt_zero, Nat.zero_le, ifT, ifF, not_true_eq_false, not_false_eq_true, if_true, if_false, or_self, and_self, true_and, and_true, or_true, true_or, false_or, or_false, false_and, and_false, Nat.add_sub_cancel]
    exact ih
end JM2

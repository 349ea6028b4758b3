/-! The model's finer: the call -/
section FM
variable {E : aEnv} {c m : Nat} {ah : aHp} {ma : Nat → Nat} {v : Nat → Value} {ai : Nat → Nat → Int32} {al : Nat → Nat → Int64} {sr : Nat → Int32} {mn : Nat → Nat} {tn : Nat → Nat → Int64}
theorem vu_self {v : Nat → Value} {k : Nat} : vu v k (v k) = v := by
  funext j
  unfold vu
  split
  · next h => rw [h]
  · rfl
/-- the loop that looks the numbers over -/
theorem l_fmL (h : MO E ah m ma) (hT : TM ai al sr mn tn) {j k : Nat} (hj : j < 4) (hn : k + 1 ≤ mn j) (hk : k ≤ 4) {l3 l6 l7 : Option Value} {l4 : Int32} {Q : Option Value → aHp → Prop} (K1 : (∀ q, q < k + 1 → -10000 ≤ tn j q ∧ tn j q ≤ 10000) → WP E (c + 1) 234 126 [some (.ref m), some (.int (nI j)), some (.int (nI k)), l3, some (.int l4), some (.int (nI (k + 1))), l6, l7] [] (mh E ah m ma v ai al) Q) (K2 : ¬ (∀ q, q < k + 1 → -10000 ≤ tn j q ∧ tn j q ≤ 10000) → Q (some (.int (-1))) (mh E ah m ma (vu v 0 (.int 5)) ai al)) :
    ∀ z i, i + z = k + 1 → (∀ q, q < i → -10000 ≤ tn j q ∧ tn j q ≤ 10000) → WP E (c + 1) 234 89 [some (.ref m), some (.int (nI j)), some (.int (nI k)), l3, some (.int l4), some (.int (nI i)), l6, l7] [] (mh E ah m ma v ai al) Q
  | 0, i, hz, hi => by
    rw [show i = k + 1 by omega, r234_89]
    simp (disch := first | assumption | omega | decide | (simp only [List.length_cons, List.length_nil, Nat.reduceAdd, Nat.reduceLT]; done) | fail) only [r234_91, r234_92, WPo_some, List.getElem?_cons_succ, List.getElem?_cons_zero, kil_n, kil_i, kil_a, kil_u, kil_l, Option.toList_some, Option.toList_none, List.cons_append, List.nil_append, List.set_cons_succ, List.set_cons_zero, addm1, Nat.reduceAdd, List.length_cons, List.length_nil, Nat.reduceLT, nI_clamp, nI_toInt, nI_leL, nI_Lle, nI_ltL, nI_Llt, nI_eqL, nI_Leq, nI_leE, nI_ltE, nI_eqE, nI_eqM, nI_add, nI_addL, nI_Ladd, nI_mulL, nI_Lmul, pk_mul, pk_sub, nI_subL, nI_Lsub, i2l_nI, Int.toNat_natCast, Nat.not_lt_zero, Nat.zero_le, ifT, ifF, not_true_eq_false, not_false_eq_true, if_true, if_false, or_self, and_self, true_and, and_true, or_true, true_or, false_or, or_false, false_and, and_false]
    exact K1 (fun k hk => hi k (by omega))
  | z + 1, i, hz, hi => by
    rw [r234_89]
    by_cases hc : -10000 ≤ tn j i ∧ tn j i ≤ 10000
    · have ih := l_fmL h hT hj hn hk K1 K2 z (i + 1) (by omega) (fun k hk => by
        by_cases y : k = i
        · rw [y]; exact hc
        · exact hi k (by omega))
      simp (disch := first | assumption | omega | decide | (simp only [List.length_cons, List.length_nil, Nat.reduceAdd, Nat.reduceLT]; done) | fail) only [r234_91, r234_92, r234_95, r234_96, r234_97, r234_102, r234_105, r234_111, r234_114, r234_115, r234_119, r234_120, r234_123, q234_99 (m_numberOf h hT hj (show i < mn j by omega)) h.ci, q234_108 m_isIn, WPo_some, List.getElem?_cons_succ, List.getElem?_cons_zero, kil_n, kil_i, kil_a, kil_u, kil_l, Option.toList_some, Option.toList_none, List.cons_append, List.nil_append, List.set_cons_succ, List.set_cons_zero, addm1, Nat.reduceAdd, List.length_cons, List.length_nil, Nat.reduceLT, nI_clamp, nI_toInt, nI_leL, nI_Lle, nI_ltL, nI_Llt, nI_eqL, nI_Leq, nI_leE, nI_ltE, nI_eqE, nI_eqM, nI_add, nI_addL, nI_Ladd, nI_mulL, nI_Lmul, pk_mul, pk_sub, nI_subL, nI_Lsub, i2l_nI, Int.toNat_natCast, Nat.not_lt_zero, Nat.zero_le, ifT, ifF, not_true_eq_false, not_false_eq_true, if_true, if_false, or_self, and_self, true_and, and_true, or_true, true_or, false_or, or_false, false_and, and_false, b2i_eq0, hc]
      exact ih
    · have K := K2 (fun y => hc (y i (by omega)))
      simp (disch := first | assumption | omega | decide | (simp only [List.length_cons, List.length_nil, Nat.reduceAdd, Nat.reduceLT]; done) | fail) only [r234_91, r234_92, r234_95, r234_96, r234_97, r234_102, r234_105, r234_111, r234_114, r234_115, r234_119, q234_99 (m_numberOf h hT hj (show i < mn j by omega)) h.ci, q234_108 m_isIn, q234_116 (m_refuse h) h.ci, WPo_some, List.getElem?_cons_succ, List.getElem?_cons_zero, kil_n, kil_i, kil_a, kil_u, kil_l, Option.toList_some, Option.toList_none, List.cons_append, List.nil_append, List.set_cons_succ, List.set_cons_zero, addm1, Nat.reduceAdd, List.length_cons, List.length_nil, Nat.reduceLT, nI_clamp, nI_toInt, nI_leL, nI_Lle, nI_ltL, nI_Llt, nI_eqL, nI_Leq, nI_leE, nI_ltE, nI_eqE, nI_eqM, nI_add, nI_addL, nI_Ladd, nI_mulL, nI_Lmul, pk_mul, pk_sub, nI_subL, nI_Lsub, i2l_nI, Int.toNat_natCast, Nat.not_lt_zero, Nat.zero_le, ifT, ifF, not_true_eq_false, not_false_eq_true, if_true, if_false, or_self, and_self, true_and, and_true, or_true, true_or, false_or, or_false, false_and, and_false, b2i_eq0, hc]
      exact K
theorem l_fmS (h : MO E ah m ma) {j k : Nat} (hj : j < 4) (hn : k + 1 ≤ mn j) (hk : k ≤ 4) {l3 l6 l7 : Option Value} {l4 : Int32} {N0 : Nat → Int64} {Q : Option Value → aHp → Prop} (K : WP E (c + 1) 234 155 [some (.ref m), some (.int (nI j)), some (.int (nI k)), l3, some (.int l4), some (.int (nI (k + 1))), l6, l7] [] (mh E ah m ma v ai (lu al 96 (ovr N0 0 (k + 1) (tn j)))) Q) :
    ∀ z i, i + z = k + 1 → TM ai al sr mn tn → WP E (c + 1) 234 129 [some (.ref m), some (.int (nI j)), some (.int (nI k)), l3, some (.int l4), some (.int (nI i)), l6, l7] [] (mh E ah m ma v ai (lu al 96 (ovr N0 0 i (tn j)))) Q
  | 0, i, hz, hT => by
    rw [show i = k + 1 by omega, r234_129]
    simp (disch := first | assumption | omega | decide | (simp only [List.length_cons, List.length_nil, Nat.reduceAdd, Nat.reduceLT]; done) | fail) only [r234_131, r234_132, WPo_some, List.getElem?_cons_succ, List.getElem?_cons_zero, kil_n, kil_i, kil_a, kil_u, kil_l, Option.toList_some, Option.toList_none, List.cons_append, List.nil_append, List.set_cons_succ, List.set_cons_zero, addm1, Nat.reduceAdd, List.length_cons, List.length_nil, Nat.reduceLT, nI_clamp, nI_toInt, nI_leL, nI_Lle, nI_ltL, nI_Llt, nI_eqL, nI_Leq, nI_leE, nI_ltE, nI_eqE, nI_eqM, nI_add, nI_addL, nI_Ladd, nI_mulL, nI_Lmul, pk_mul, pk_sub, nI_subL, nI_Lsub, i2l_nI, Int.toNat_natCast, Nat.not_lt_zero, Nat.zero_le, ifT, ifF, not_true_eq_false, not_false_eq_true, if_true, if_false, or_self, and_self, true_and, and_true, or_true, true_or, false_or, or_false, false_and, and_false]
    exact K
  | z + 1, i, hz, hT => by
    have ih := l_fmS h hj hn hk K z (i + 1) (by omega) hT
    have hT2 : TM ai (lu al 96 (ovr N0 0 i (tn j))) sr mn tn := TM_fr hT (fun k hk => rfl) (lu_ne (by decide))
    have m2 := vupd_ovr (F := N0) (i := i) (h := tn j) (x := tn j i) rfl
    rw [r234_129]
    simp (disch := first | assumption | omega | decide | (simp only [List.length_cons, List.length_nil, Nat.reduceAdd, Nat.reduceLT]; done) | fail) only [r234_131, r234_132, r234_135, r234_136, r234_139, r234_141, r234_142, r234_143, r234_148, r234_149, r234_152, q234_145 (m_numberOf h hT2 hj (show i < mn j by omega)) h.ci, mh_o h, gm_96, WPo_some, List.getElem?_cons_succ, List.getElem?_cons_zero, kil_n, kil_i, kil_a, kil_u, kil_l, Option.toList_some, Option.toList_none, List.cons_append, List.nil_append, List.set_cons_succ, List.set_cons_zero, addm1, Nat.reduceAdd, List.length_cons, List.length_nil, Nat.reduceLT, nI_clamp, nI_toInt, nI_leL, nI_Lle, nI_ltL, nI_Llt, nI_eqL, nI_Leq, nI_leE, nI_ltE, nI_eqE, nI_eqM, nI_add, nI_addL, nI_Ladd, nI_mulL, nI_Lmul, pk_mul, pk_sub, nI_subL, nI_Lsub, i2l_nI, Int.toNat_natCast, Nat.not_lt_zero, Nat.zero_le, ifT, ifF, not_true_eq_false, not_false_eq_true, if_true, if_false, or_self, and_self, true_and, and_true, or_true, true_or, false_or, or_false, false_and, and_false, pL, hm_96 h, sm_96 h, lu_at, lu_lu, m2]
    exact ih
theorem l_fmI (h : MO E ah m ma) {k n : Nat} (hk : k ≤ 4) (hn : 1 ≤ n) (hnk : n ≤ k) {l1 l3 l7 : Option Value} {l4 : Int32} {Q : Option Value → aHp → Prop} : ∀ z (D : Nat → Int64), n + z ≤ k + 1 → WP E c 234 199 [some (.ref m), l1, some (.int (nI k)), l3, some (.int l4), some (.int (nI n)), some (.int (nI (n - 1))), l7] [] (mh E ah m ma v ai (lu al 96 (az1 n z D))) Q → WP E c 234 167 [some (.ref m), l1, some (.int (nI k)), l3, some (.int l4), some (.int (nI n)), some (.int (nI (n + z - 1))), l7] [] (mh E ah m ma v ai (lu al 96 D)) Q
  | 0, D, hz, K => by
    rw [r234_167, Nat.add_zero]
    simp (disch := first | assumption | omega | decide | (simp only [List.length_cons, List.length_nil, Nat.reduceAdd, Nat.reduceLT]; done) | fail) only [r234_169, r234_171, WPo_some, List.getElem?_cons_succ, List.getElem?_cons_zero, kil_n, kil_i, kil_a, kil_u, kil_l, Option.toList_some, Option.toList_none, List.cons_append, List.nil_append, List.set_cons_succ, List.set_cons_zero, addm1, Nat.reduceAdd, List.length_cons, List.length_nil, Nat.reduceLT, nI_clamp, nI_toInt, nI_leL, nI_Lle, nI_ltL, nI_Llt, nI_eqL, nI_Leq, nI_leE, nI_ltE, nI_eqE, nI_eqM, nI_add, nI_addL, nI_Ladd, nI_mulL, nI_Lmul, pk_mul, pk_sub, nI_subL, nI_Lsub, i2l_nI, Int.toNat_natCast, Nat.not_lt_zero, Nat.zero_le, ifT, ifF, not_true_eq_false, not_false_eq_true, if_true, if_false, or_self, and_self, true_and, and_true, or_true, true_or, false_or, or_false, false_and, and_false]
    exact K
  | z + 1, D, hz, K => by
    have ih := l_fmI h hk hn hnk z (vp_updL D (n + z) (D (n + z) - D (n + z - 1))) (by omega) (l1 := l1) (l3 := l3) (l4 := l4) (l7 := l7) (Q := Q) K
    have e1 : n + (z + 1) - 1 = n + z := by omega
    rw [r234_167, e1]
    simp (disch := first | assumption | omega | decide | (simp only [List.length_cons, List.length_nil, Nat.reduceAdd, Nat.reduceLT]; done) | fail) only [r234_169, r234_171, r234_174, r234_175, r234_178, r234_180, r234_180l, r234_181, r234_182, r234_183, r234_186, r234_188, r234_189, r234_190, r234_191, r234_192, r234_193, r234_196, mh_o h, gm_96, WPo_some, List.getElem?_cons_succ, List.getElem?_cons_zero, kil_n, kil_i, kil_a, kil_u, kil_l, Option.toList_some, Option.toList_none, List.cons_append, List.nil_append, List.set_cons_succ, List.set_cons_zero, addm1, Nat.reduceAdd, List.length_cons, List.length_nil, Nat.reduceLT, nI_clamp, nI_toInt, nI_leL, nI_Lle, nI_ltL, nI_Llt, nI_eqL, nI_Leq, nI_leE, nI_ltE, nI_eqE, nI_eqM, nI_add, nI_addL, nI_Ladd, nI_mulL, nI_Lmul, pk_mul, pk_sub, nI_subL, nI_Lsub, i2l_nI, Int.toNat_natCast, Nat.not_lt_zero, Nat.zero_le, ifT, ifF, not_true_eq_false, not_false_eq_true, if_true, if_false, or_self, and_self, true_and, and_true, or_true, true_or, false_or, or_false, false_and, and_false, gL, pL, hm_96 h, sm_96 h, lu_at, lu_lu]
    exact ih
theorem l_fmO (h : MO E ah m ma) {k : Nat} (hk : k ≤ 4) {l1 l3 l7 : Option Value} {l4 : Int32} {Q : Option Value → aHp → Prop} : ∀ y n (D : Nat → Int64) l6, 1 ≤ n → n + y = k + 1 → (∀ l6, WP E c 234 205 [some (.ref m), l1, some (.int (nI k)), l3, some (.int l4), some (.int (nI (k + 1))), l6, l7] [] (mh E ah m ma v ai (lu al 96 (azO (k + 1) y n D))) Q) → WP E c 234 158 [some (.ref m), l1, some (.int (nI k)), l3, some (.int l4), some (.int (nI n)), l6, l7] [] (mh E ah m ma v ai (lu al 96 D)) Q
  | 0, n, D, l6, hn, hy, K => by
    have K := K l6
    rw [r234_158, show n = k + 1 by omega]
    simp (disch := first | assumption | omega | decide | (simp only [List.length_cons, List.length_nil, Nat.reduceAdd, Nat.reduceLT]; done) | fail) only [r234_160, r234_161, WPo_some, List.getElem?_cons_succ, List.getElem?_cons_zero, kil_n, kil_i, kil_a, kil_u, kil_l, Option.toList_some, Option.toList_none, List.cons_append, List.nil_append, List.set_cons_succ, List.set_cons_zero, addm1, Nat.reduceAdd, List.length_cons, List.length_nil, Nat.reduceLT, nI_clamp, nI_toInt, nI_leL, nI_Lle, nI_ltL, nI_Llt, nI_eqL, nI_Leq, nI_leE, nI_ltE, nI_eqE, nI_eqM, nI_add, nI_addL, nI_Ladd, nI_mulL, nI_Lmul, pk_mul, pk_sub, nI_subL, nI_Lsub, i2l_nI, Int.toNat_natCast, Nat.not_lt_zero, Nat.zero_le, ifT, ifF, not_true_eq_false, not_false_eq_true, if_true, if_false, or_self, and_self, true_and, and_true, or_true, true_or, false_or, or_false, false_and, and_false]
    exact K
  | y + 1, n, D, l6, hn, hy, K => by
    have ih := l_fmO h hk (l1 := l1) (l3 := l3) (l4 := l4) (l7 := l7) (Q := Q) y (n + 1) (az1 n (k + 1 - n) D) (some (.int (nI (n - 1)))) (by omega) (by omega) K
    have l := l_fmI (E := E) (c := c) (v := v) (ai := ai) (al := al) h hk hn (by omega) (l1 := l1) (l3 := l3) (l4 := l4) (l7 := l7) (Q := Q) (k + 1 - n) D (by omega) (by
      simp (disch := first | assumption | omega | decide | (simp only [List.length_cons, List.length_nil, Nat.reduceAdd, Nat.reduceLT]; done) | fail) only [r234_199, r234_202, WPo_some, List.getElem?_cons_succ, List.getElem?_cons_zero, kil_n, kil_i, kil_a, kil_u, kil_l, Option.toList_some, Option.toList_none, List.cons_append, List.nil_append, List.set_cons_succ, List.set_cons_zero, addm1, Nat.reduceAdd, List.length_cons, List.length_nil, Nat.reduceLT, nI_clamp, nI_toInt, nI_leL, nI_Lle, nI_ltL, nI_Llt, nI_eqL, nI_Leq, nI_leE, nI_ltE, nI_eqE, nI_eqM, nI_add, nI_addL, nI_Ladd, nI_mulL, nI_Lmul, pk_mul, pk_sub, nI_subL, nI_Lsub, i2l_nI, Int.toNat_natCast, Nat.not_lt_zero, Nat.zero_le, ifT, ifF, not_true_eq_false, not_false_eq_true, if_true, if_false, or_self, and_self, true_and, and_true, or_true, true_or, false_or, or_false, false_and, and_false]
      exact ih)
    rw [show n + (k + 1 - n) - 1 = k by omega] at l
    rw [r234_158]
    simp (disch := first | assumption | omega | decide | (simp only [List.length_cons, List.length_nil, Nat.reduceAdd, Nat.reduceLT]; done) | fail) only [r234_160, r234_161, r234_164, r234_165, WPo_some, List.getElem?_cons_succ, List.getElem?_cons_zero, kil_n, kil_i, kil_a, kil_u, kil_l, Option.toList_some, Option.toList_none, List.cons_append, List.nil_append, List.set_cons_succ, List.set_cons_zero, addm1, Nat.reduceAdd, List.length_cons, List.length_nil, Nat.reduceLT, nI_clamp, nI_toInt, nI_leL, nI_Lle, nI_ltL, nI_Llt, nI_eqL, nI_Leq, nI_leE, nI_ltE, nI_eqE, nI_eqM, nI_add, nI_addL, nI_Ladd, nI_mulL, nI_Lmul, pk_mul, pk_sub, nI_subL, nI_Lsub, i2l_nI, Int.toNat_natCast, Nat.not_lt_zero, Nat.zero_le, ifT, ifF, not_true_eq_false, not_false_eq_true, if_true, if_false, or_self, and_self, true_and, and_true, or_true, true_or, false_or, or_false, false_and, and_false]
    exact l
theorem l_fmU {M k : Nat} (hk : k ≤ 4) (hM : M ≤ 20) {a0 a1 : Option Value} {l4 : Int32} {Q : Option Value → aHp → Prop} (K : WP E c 234 236 [a0, a1, some (.int (nI k)), some (.int (nI M)), some (.int l4), some (.long (lN (unN M k))), none, some (.int (nI k))] [] ah Q) : ∀ z i, i + z = k → WP E c 234 211 [a0, a1, some (.int (nI k)), some (.int (nI M)), some (.int l4), some (.long (lN (unN M i))), none, some (.int (nI i))] [] ah Q
  | 0, i, hz => by
    rw [show i = k by omega, r234_211]
    simp (disch := first | assumption | omega | decide | (simp only [List.length_cons, List.length_nil, Nat.reduceAdd, Nat.reduceLT]; done) | fail) only [r234_213, r234_214, WPo_some, List.getElem?_cons_succ, List.getElem?_cons_zero, kil_n, kil_i, kil_a, kil_u, kil_l, Option.toList_some, Option.toList_none, List.cons_append, List.nil_append, List.set_cons_succ, List.set_cons_zero, addm1, Nat.reduceAdd, List.length_cons, List.length_nil, Nat.reduceLT, nI_clamp, nI_toInt, nI_leL, nI_Lle, nI_ltL, nI_Llt, nI_eqL, nI_Leq, nI_leE, nI_ltE, nI_eqE, nI_eqM, nI_add, nI_addL, nI_Ladd, nI_mulL, nI_Lmul, pk_mul, pk_sub, nI_subL, nI_Lsub, i2l_nI, Int.toNat_natCast, Nat.not_lt_zero, Nat.zero_le, ifT, ifF, not_true_eq_false, not_false_eq_true, if_true, if_false, or_self, and_self, true_and, and_true, or_true, true_or, false_or, or_false, false_and, and_false]
    exact K
  | z + 1, i, hz => by
    have ih := l_fmU hk hM K z (i + 1) (by omega)
    rw [unN] at ih
    rw [r234_211]
    simp (disch := first | assumption | omega | decide | (simp only [List.length_cons, List.length_nil, Nat.reduceAdd, Nat.reduceLT]; done) | fail) only [r234_213, r234_214, r234_217, r234_219, r234_220, r234_221, r234_223, r234_224, r234_225, r234_226, r234_227, r234_228, r234_230, r234_233, nI_l, lN_mul, WPo_some, List.getElem?_cons_succ, List.getElem?_cons_zero, kil_n, kil_i, kil_a, kil_u, kil_l, Option.toList_some, Option.toList_none, List.cons_append, List.nil_append, List.set_cons_succ, List.set_cons_zero, addm1, Nat.reduceAdd, List.length_cons, List.length_nil, Nat.reduceLT, nI_clamp, nI_toInt, nI_leL, nI_Lle, nI_ltL, nI_Llt, nI_eqL, nI_Leq, nI_leE, nI_ltE, nI_eqE, nI_eqM, nI_add, nI_addL, nI_Ladd, nI_mulL, nI_Lmul, pk_mul, pk_sub, nI_subL, nI_Lsub, i2l_nI, Int.toNat_natCast, Nat.not_lt_zero, Nat.zero_le, ifT, ifF, not_true_eq_false, not_false_eq_true, if_true, if_false, or_self, and_self, true_and, and_true, or_true, true_or, false_or, or_false, false_and, and_false]
    exact ih
theorem l_fmD (h : MO E ah m ma) {M k : Nat} (hM : 2 ≤ M ∧ M ≤ 20) (hk : k ≤ 4) (hk1 : 1 ≤ k) {r : Nat} (hr : r ≤ 60) {t : Nat → Int64} (ht : eqN (k + 1) (al 96) (fd0 t k)) (hb : ∀ j, j < k + 1 → bdI (t j) 10000) {a1 : Option Value} (hv : v 0 = .int 0) : ∀ z f R, f + z = 7 → WP E (c + 3) 234 239 [some (.ref m), a1, some (.int (nI k)), some (.int (nI M)), some (.int (nI r)), some (.long (lN (unN M k))), none, some (.int (nI f))] [] (mh E ah m ma v ai (lu al 26 R)) (fun r1 x1 => r1 = some (.int (fnN (k + 1) (lN (unN M k)) r (bkD (k + 1) (fP t k M)) z f)) ∧ ∃ R', x1 = mh E ah m ma (vu v 0 (.int (if fnN (k + 1) (lN (unN M k)) r (bkD (k + 1) (fP t k M)) z f = -1 then 8 else 0))) ai (lu al 26 R'))
  | 0, f, R, hz => by
    have fn : fnN (k + 1) (lN (unN M k)) r (bkD (k + 1) (fP t k M)) 0 f = -1 := rfl
    rw [show f = 7 by omega] at fn ⊢
    rw [fn, if_pos rfl, r234_239]
    simp (disch := first | assumption | omega | decide | (simp only [List.length_cons, List.length_nil, Nat.reduceAdd, Nat.reduceLT]; done) | fail) only [r234_241, r234_243, r234_270, r234_271, r234_276, q234_273 (m_refuse h) h.ci, WPo_some, List.getElem?_cons_succ, List.getElem?_cons_zero, kil_n, kil_i, kil_a, kil_u, kil_l, Option.toList_some, Option.toList_none, List.cons_append, List.nil_append, List.set_cons_succ, List.set_cons_zero, addm1, Nat.reduceAdd, List.length_cons, List.length_nil, Nat.reduceLT, nI_clamp, nI_toInt, nI_leL, nI_Lle, nI_ltL, nI_Llt, nI_eqL, nI_Leq, nI_leE, nI_ltE, nI_eqE, nI_eqM, nI_add, nI_addL, nI_Ladd, nI_mulL, nI_Lmul, pk_mul, pk_sub, nI_subL, nI_Lsub, i2l_nI, Int.toNat_natCast, Nat.not_lt_zero, Nat.zero_le, ifT, ifF, not_true_eq_false, not_false_eq_true, if_true, if_false, or_self, and_self, true_and, and_true, or_true, true_or, false_or, or_false, false_and, and_false]
    exact ⟨R, rfl⟩
  | z + 1, f, R, hz => by
    obtain ⟨R', a⟩ := m_isEnough (E := E) (c := c) (v := v) (ai := ai) (al := al) h hM hk hk1 (show f ≤ 6 by omega) hr ht hb (R := R)
    have ih := l_fmD h hM hk hk1 hr ht hb (a1 := a1) hv z (f + 1) R' (by omega)
    have hv0 : vu v 0 (.int 0) = v := by rw [← hv]; exact vu_self
    have fn : fnN (k + 1) (lN (unN M k)) r (bkD (k + 1) (fP t k M)) (z + 1) f = if alR (k + 1) (lN (unN M k)) (lN (10 ^ f)) r (bkD (k + 1) (fP t k M)) (rnD (bkD (k + 1) (fP t k M)) (lN (unN M k)) (lN (10 ^ f))) = 0 then fnN (k + 1) (lN (unN M k)) r (bkD (k + 1) (fP t k M)) z (f + 1) else nI f := rfl
    rw [fn, r234_239]
    generalize alR (k + 1) (lN (unN M k)) (lN (10 ^ f)) r (bkD (k + 1) (fP t k M)) (rnD (bkD (k + 1) (fP t k M)) (lN (unN M k)) (lN (10 ^ f))) = w at a ⊢
    by_cases y : w = 0
    · rw [if_pos y]
      simp (disch := first | assumption | omega | decide | (simp only [List.length_cons, List.length_nil, Nat.reduceAdd, Nat.reduceLT]; done) | fail) only [r234_241, r234_243, r234_246, r234_247, r234_248, r234_249, r234_251, r234_253, r234_258, r234_261, r234_263, r234_264, r234_267, q234_255 a h.ci, y, WPo_some, List.getElem?_cons_succ, List.getElem?_cons_zero, kil_n, kil_i, kil_a, kil_u, kil_l, Option.toList_some, Option.toList_none, List.cons_append, List.nil_append, List.set_cons_succ, List.set_cons_zero, addm1, Nat.reduceAdd, List.length_cons, List.length_nil, Nat.reduceLT, nI_clamp, nI_toInt, nI_leL, nI_Lle, nI_ltL, nI_Llt, nI_eqL, nI_Leq, nI_leE, nI_ltE, nI_eqE, nI_eqM, nI_add, nI_addL, nI_Ladd, nI_mulL, nI_Lmul, pk_mul, pk_sub, nI_subL, nI_Lsub, i2l_nI, Int.toNat_natCast, Nat.not_lt_zero, Nat.zero_le, ifT, ifF, not_true_eq_false, not_false_eq_true, if_true, if_false, or_self, and_self, true_and, and_true, or_true, true_or, false_or, or_false, false_and, and_false]
      exact ih
    · rw [if_neg y, if_neg (by rw [nI_eqM (show f < 2 ^ 31 by omega)]; exact fun x => x), hv0]
      simp (disch := first | assumption | omega | decide | (simp only [List.length_cons, List.length_nil, Nat.reduceAdd, Nat.reduceLT]; done) | fail) only [r234_241, r234_243, r234_246, r234_247, r234_248, r234_249, r234_251, r234_253, r234_258, r234_261, r234_263, q234_255 a h.ci, y, WPo_some, List.getElem?_cons_succ, List.getElem?_cons_zero, kil_n, kil_i, kil_a, kil_u, kil_l, Option.toList_some, Option.toList_none, List.cons_append, List.nil_append, List.set_cons_succ, List.set_cons_zero, addm1, Nat.reduceAdd, List.length_cons, List.length_nil, Nat.reduceLT, nI_clamp, nI_toInt, nI_leL, nI_Lle, nI_ltL, nI_Llt, nI_eqL, nI_Leq, nI_leE, nI_ltE, nI_eqE, nI_eqM, nI_add, nI_addL, nI_Ladd, nI_mulL, nI_Lmul, pk_mul, pk_sub, nI_subL, nI_Lsub, i2l_nI, Int.toNat_natCast, Nat.not_lt_zero, Nat.zero_le, ifT, ifF, not_true_eq_false, not_false_eq_true, if_true, if_false, or_self, and_self, true_and, and_true, or_true, true_or, false_or, or_false, false_and, and_false]
      exact ⟨R', rfl⟩
theorem m_finer_no (h : MO E ah m ma) (hT : TM ai al sr mn tn) {tray k M r : Int32} (hs : ¬ fiSt sr mn tn tray k M r = 0) : EV E (c + 2) 234 [.ref m, .int tray, .int k, .int M, .int r] (mh E ah m ma v ai al) (some (.int (-1))) (mh E ah m ma (vu (vu v 1 (.int 0)) 0 (.int (fiSt sr mn tn tray k M r))) ai al) := by
  refine e234 ?_
  have ht1 := m_trayed (E := E) (c := c + 1) (v := vu v 1 (.int 0)) h hT (x := tray)
  by_cases h1 : 0 ≤ tray.toInt ∧ tray.toInt ≤ 3
  · obtain ⟨j, hj, rfl⟩ := i32_nat (n := 4) h1.1 (by omega)
    have ej := nI_toInt (show j < 2 ^ 31 by omega)
    obtain ⟨m1, m2, m3⟩ := hT j hj
    rw [if_neg (not_not_intro h1), ej, Int.toNat_natCast] at ht1
    rw [fiSt_i hj] at hs ⊢
    by_cases h3 : sr j = -1
    · rw [if_pos h3] at ht1 ⊢
      simp (disch := first | assumption | omega | decide | (simp only [List.length_cons, List.length_nil, Nat.reduceAdd, Nat.reduceLT]; done) | fail) only [r234_0, r234_1, r234_2, r234_5, r234_6, r234_7, r234_11, r234_14, r234_15, r234_18, r234_21, r234_22, mh_o h, mh_put h, pm_1, pm_0, gm_0, vu_at, q234_8 ht1 h.ci, WPo_some, List.getElem?_cons_succ, List.getElem?_cons_zero, kil_n, kil_i, kil_a, kil_u, kil_l, Option.toList_some, Option.toList_none, List.cons_append, List.nil_append, List.set_cons_succ, List.set_cons_zero, addm1, Nat.reduceAdd, List.length_cons, List.length_nil, Nat.reduceLT, not_true_eq_false, not_false_eq_true, if_true, if_false, or_self, and_self, true_and, and_true, or_true, true_or, false_or, or_false, false_and, and_false, show ¬ (3 : Int32) ≤ 0 by decide]
    · rw [if_neg h3] at ht1 hs m2 ⊢
      by_cases h2 : (1 ≤ k.toInt ∧ k.toInt ≤ 4) ∧ (2 ≤ M.toInt ∧ M.toInt ≤ 20) ∧ 1 ≤ r.toInt ∧ r.toInt ≤ 60
      · rw [if_neg (not_not_intro h2)] at hs ⊢
        obtain ⟨q, hq, rfl⟩ := i32_nat (x := k) (n := 5) (by omega) (by omega)
        have eq := nI_toInt (show q < 2 ^ 31 by omega)
        rw [eq] at h2 hs ⊢
        have c1 : (1 : Int64) ≤ (nI q).toInt64 ∧ (nI q).toInt64 ≤ 4 := by simp only [i64_lt, i64_le, i2l_toInt, Int64.reduceToInt, eq]; omega
        have c2 : (2 : Int64) ≤ M.toInt64 ∧ M.toInt64 ≤ 20 := by simp only [i64_lt, i64_le, i2l_toInt, Int64.reduceToInt]; omega
        have c3 : (1 : Int64) ≤ r.toInt64 ∧ r.toInt64 ≤ 60 := by simp only [i64_lt, i64_le, i2l_toInt, Int64.reduceToInt]; omega
        by_cases h4 : (mn j : Int) < q + 1
        · rw [if_pos h4]
          simp (disch := first | assumption | omega | decide | (simp only [List.length_cons, List.length_nil, Nat.reduceAdd, Nat.reduceLT]; done) | fail) only [r234_0, r234_1, r234_2, r234_5, r234_6, r234_7, r234_11, r234_14, r234_15, r234_18, r234_21, r234_22, r234_23, r234_24, r234_25, r234_26, r234_32, r234_35, r234_36, r234_37, r234_40, r234_46, r234_49, r234_51, r234_52, r234_53, r234_59, r234_62, r234_63, r234_67, r234_68, r234_69, r234_72, r234_73, r234_74, r234_75, r234_76, r234_77, r234_80, r234_81, r234_85, mh_o h, mh_put h, pm_1, pm_0, gm_0, gm_3, vu_at, q234_8 ht1 h.ci, q234_29 m_isIn, q234_43 m_isIn, q234_56 m_isIn, q234_82 (m_refuse h) h.ci, WPo_some, List.getElem?_cons_succ, List.getElem?_cons_zero, kil_n, kil_i, kil_a, kil_u, kil_l, Option.toList_some, Option.toList_none, List.cons_append, List.nil_append, List.set_cons_succ, List.set_cons_zero, addm1, Nat.reduceAdd, List.length_cons, List.length_nil, Nat.reduceLT, not_true_eq_false, not_false_eq_true, if_true, if_false, or_self, and_self, true_and, and_true, or_true, true_or, false_or, or_false, false_and, and_false, b2i_eq0, c1, c2, c3, show (0 : Int32) ≤ 0 by decide, gI, hm_3 h, m2.1, nI_clamp, nI_toInt, nI_leL, nI_Lle, nI_ltL, nI_Llt, nI_eqL, nI_Leq, nI_leE, nI_ltE, nI_eqE, nI_eqM, nI_add, nI_addL, nI_Ladd, nI_mulL, nI_Lmul, pk_mul, pk_sub, nI_subL, nI_Lsub, i2l_nI, Int.toNat_natCast, Nat.not_lt_zero, Nat.zero_le, ifT, ifF, vu_vu]
        · rw [if_neg h4, Int.toNat_natCast] at hs ⊢
          by_cases h5 : ∀ x, x < q + 1 → -10000 ≤ tn j x ∧ tn j x ≤ 10000
          · exact absurd (if_neg (not_not_intro h5)) hs
          · rw [if_pos h5]
            have l := l_fmL (E := E) (c := c + 1) (v := vu (vu v 1 (.int 0)) 0 (.int 0)) h hT hj (show q + 1 ≤ mn j by omega) (by omega) (l3 := some (.int M)) (l4 := r) (l6 := none) (l7 := none) (Q := fun r1 x1 => r1 = some (.int (-1)) ∧ x1 = mh E ah m ma (vu (vu v 1 (.int 0)) 0 (.int 5)) ai al) (fun z => absurd z h5) (fun z => ⟨rfl, by rw [vu_vu]⟩) (q + 1) 0 (by omega) (fun x hx => absurd hx (by omega))
            simp (disch := first | assumption | omega | decide | (simp only [List.length_cons, List.length_nil, Nat.reduceAdd, Nat.reduceLT]; done) | fail) only [r234_0, r234_1, r234_2, r234_5, r234_6, r234_7, r234_11, r234_14, r234_15, r234_18, r234_21, r234_22, r234_23, r234_24, r234_25, r234_26, r234_32, r234_35, r234_36, r234_37, r234_40, r234_46, r234_49, r234_51, r234_52, r234_53, r234_59, r234_62, r234_63, r234_67, r234_68, r234_69, r234_72, r234_73, r234_74, r234_75, r234_76, r234_77, r234_80, r234_81, r234_85, r234_86, r234_87, mh_o h, mh_put h, pm_1, pm_0, gm_0, gm_3, vu_at, q234_8 ht1 h.ci, q234_29 m_isIn, q234_43 m_isIn, q234_56 m_isIn, WPo_some, List.getElem?_cons_succ, List.getElem?_cons_zero, kil_n, kil_i, kil_a, kil_u, kil_l, Option.toList_some, Option.toList_none, List.cons_append, List.nil_append, List.set_cons_succ, List.set_cons_zero, addm1, Nat.reduceAdd, List.length_cons, List.length_nil, Nat.reduceLT, not_true_eq_false, not_false_eq_true, if_true, if_false, or_self, and_self, true_and, and_true, or_true, true_or, false_or, or_false, false_and, and_false, b2i_eq0, c1, c2, c3, show (0 : Int32) ≤ 0 by decide, gI, hm_3 h, m2.1, nI_clamp, nI_toInt, nI_leL, nI_Lle, nI_ltL, nI_Llt, nI_eqL, nI_Leq, nI_leE, nI_ltE, nI_eqE, nI_eqM, nI_add, nI_addL, nI_Ladd, nI_mulL, nI_Lmul, pk_mul, pk_sub, nI_subL, nI_Lsub, i2l_nI, Int.toNat_natCast, Nat.not_lt_zero, Nat.zero_le, ifT, ifF, vu_vu]
            exact l
      · rw [if_pos h2]
        simp (disch := first | assumption | omega | decide | (simp only [List.length_cons, List.length_nil, Nat.reduceAdd, Nat.reduceLT]; done) | fail) only [r234_0, r234_1, r234_2, r234_5, r234_6, r234_7, r234_11, r234_14, r234_15, r234_18, r234_21, r234_22, r234_23, r234_24, r234_25, r234_26, r234_32, r234_35, r234_36, r234_37, r234_40, r234_46, r234_49, r234_51, r234_52, r234_53, r234_59, r234_62, r234_63, r234_67, mh_o h, mh_put h, pm_1, pm_0, gm_0, vu_at, q234_8 ht1 h.ci, q234_29 m_isIn, q234_43 m_isIn, q234_56 m_isIn, q234_64 (m_refuse h) h.ci, WPo_some, List.getElem?_cons_succ, List.getElem?_cons_zero, kil_n, kil_i, kil_a, kil_u, kil_l, Option.toList_some, Option.toList_none, List.cons_append, List.nil_append, List.set_cons_succ, List.set_cons_zero, addm1, Nat.reduceAdd, List.length_cons, List.length_nil, Nat.reduceLT, not_true_eq_false, not_false_eq_true, if_true, if_false, or_self, and_self, true_and, and_true, or_true, true_or, false_or, or_false, false_and, and_false, b2i_eq0, show (0 : Int32) ≤ 0 by decide, vu_vu]
        simp only [i64_lt, i64_le, i2l_toInt, Int64.reduceToInt]
        repeat' split
        all_goals first | exact trivial | exact ⟨rfl, rfl⟩ | (exfalso; omega) | (exfalso; simp_all; done) | (simp_all; done)
  · have e1 : fiSt sr mn tn tray k M r = 1 := if_pos h1
    rw [if_pos h1] at ht1
    rw [e1]
    simp (disch := first | assumption | omega | decide | (simp only [List.length_cons, List.length_nil, Nat.reduceAdd, Nat.reduceLT]; done) | fail) only [r234_0, r234_1, r234_2, r234_5, r234_6, r234_7, r234_11, r234_14, r234_15, r234_18, r234_21, r234_22, mh_o h, mh_put h, pm_1, pm_0, gm_0, vu_at, q234_8 ht1 h.ci, WPo_some, List.getElem?_cons_succ, List.getElem?_cons_zero, kil_n, kil_i, kil_a, kil_u, kil_l, Option.toList_some, Option.toList_none, List.cons_append, List.nil_append, List.set_cons_succ, List.set_cons_zero, addm1, Nat.reduceAdd, List.length_cons, List.length_nil, Nat.reduceLT, not_true_eq_false, not_false_eq_true, if_true, if_false, or_self, and_self, true_and, and_true, or_true, true_or, false_or, or_false, false_and, and_false, show ¬ (1 : Int32) ≤ 0 by decide]
theorem m_finer_ok (h : MO E ah m ma) (hT : TM ai al sr mn tn) {j k M r : Nat} (hj : j < 4) (hne : ¬ sr j = -1) (hk1 : 1 ≤ k) (hk : k ≤ 4) (hm : k + 1 ≤ mn j) (hM : 2 ≤ M ∧ M ≤ 20) (hr1 : 1 ≤ r) (hr : r ≤ 60) (hb : ∀ q, q < k + 1 → -10000 ≤ tn j q ∧ tn j q ≤ 10000) : ∃ al', EV E (c + 3) 234 [.ref m, .int (nI j), .int (nI k), .int (nI M), .int (nI r)] (mh E ah m ma v ai al) (some (.int (fiR (tn j) k M r))) (mh E ah m ma (vu (vu v 1 (.int 0)) 0 (.int (if fiR (tn j) k M r = -1 then 8 else 0))) ai al') ∧ ∀ q, ¬ (q = 26 ∨ q = 96) → al' q = al q := by
  have ej := nI_toInt (show j < 2 ^ 31 by omega)
  obtain ⟨m1, m2, m3⟩ := hT j hj
  rw [if_neg hne] at m2
  have ht1 := m_trayed (E := E) (c := c + 2) (v := vu v 1 (.int 0)) h hT (x := nI j)
  rw [if_neg (by rw [ej]; omega), ej, Int.toNat_natCast, if_neg hne] at ht1
  have ek := nI_toInt (show k < 2 ^ 31 by omega)
  have eM := nI_toInt (show M < 2 ^ 31 by omega)
  have er := nI_toInt (show r < 2 ^ 31 by omega)
  have c1 : (1 : Int64) ≤ (nI k).toInt64 ∧ (nI k).toInt64 ≤ 4 := by simp only [i64_lt, i64_le, i2l_toInt, Int64.reduceToInt, ek]; omega
  have c2 : (2 : Int64) ≤ (nI M).toInt64 ∧ (nI M).toInt64 ≤ 20 := by simp only [i64_lt, i64_le, i2l_toInt, Int64.reduceToInt, eM]; omega
  have c3 : (1 : Int64) ≤ (nI r).toInt64 ∧ (nI r).toInt64 ≤ 60 := by simp only [i64_lt, i64_le, i2l_toInt, Int64.reduceToInt, er]; omega
  have hb2 : ∀ q, q < k + 1 → bdI (tn j q) 10000 := fun q hq => by
    have := hb q hq
    simp only [i64_lt, i64_le, i2l_toInt, Int64.reduceToInt] at this
    exact bdI_rg this
  let Z := azO (k + 1) k 1 (ovr (al 96) 0 (k + 1) (tn j))
  have eZ : eqN (k + 1) (lu al 96 Z 96) (fd0 (tn j) k) := by
    rw [lu_at]
    exact azO_eq k 1 _ _ (by omega) (by omega) (fun i hi => ovr0_in hi)
  let Q : Option Value → aHp → Prop := fun r1 x1 => r1 = some (.int (fiR (tn j) k M r)) ∧ ∃ R', x1 = mh E ah m ma (vu (vu (vu v 1 (.int 0)) 0 (.int 0)) 0 (.int (if fiR (tn j) k M r = -1 then 8 else 0))) ai (lu (lu al 96 Z) 26 R')
  have lD := l_fmD (E := E) (c := c) (v := vu (vu v 1 (.int 0)) 0 (.int 0)) (ai := ai) (al := lu al 96 Z) h hM hk hk1 hr eZ hb2 (a1 := some (.int (nI j))) vu_at 7 0 (lu al 96 Z 26) (by omega)
  rw [lu_self] at lD
  have lU := fun l6 : Option Value => l_fmU (E := E) (c := c + 3) (ah := mh E ah m ma (vu (vu v 1 (.int 0)) 0 (.int 0)) ai (lu al 96 Z)) (M := M) hk hM.2 (a0 := some (.ref m)) (a1 := some (.int (nI j))) (l4 := nI r) (Q := Q) (K := by
    simp (disch := first | assumption | omega | decide | (simp only [List.length_cons, List.length_nil, Nat.reduceAdd, Nat.reduceLT]; done) | fail) only [r234_236, r234_237, WPo_some, List.getElem?_cons_succ, List.getElem?_cons_zero, kil_n, kil_i, kil_a, kil_u, kil_l, Option.toList_some, Option.toList_none, List.cons_append, List.nil_append, List.set_cons_succ, List.set_cons_zero, addm1, Nat.reduceAdd, List.length_cons, List.length_nil, Nat.reduceLT]
    exact lD) k 0 (by omega)
  have lO := l_fmO (E := E) (c := c + 3) (v := vu (vu v 1 (.int 0)) 0 (.int 0)) (ai := ai) (al := al) h hk (l1 := some (.int (nI j))) (l3 := some (.int (nI M))) (l4 := nI r) (l7 := none) (Q := Q) k 1 (ovr (al 96) 0 (k + 1) (tn j)) none (by omega) (by omega) (fun l6 => by
    have lU := lU l6
    simp (disch := first | assumption | omega | decide | (simp only [List.length_cons, List.length_nil, Nat.reduceAdd, Nat.reduceLT]; done) | fail) only [r234_205, r234_206, r234_208, r234_209, WPo_some, List.getElem?_cons_succ, List.getElem?_cons_zero, kil_n, kil_i, kil_a, kil_u, kil_l, Option.toList_some, Option.toList_none, List.cons_append, List.nil_append, List.set_cons_succ, List.set_cons_zero, addm1, Nat.reduceAdd, List.length_cons, List.length_nil, Nat.reduceLT]
    exact lU)
  have lS := l_fmS (E := E) (c := c + 2) (v := vu (vu v 1 (.int 0)) 0 (.int 0)) (ai := ai) (al := al) (tn := tn) h hj hm hk (l3 := some (.int (nI M))) (l4 := nI r) (l6 := none) (l7 := none) (N0 := al 96) (Q := Q) (by
    simp (disch := first | assumption | omega | decide | (simp only [List.length_cons, List.length_nil, Nat.reduceAdd, Nat.reduceLT]; done) | fail) only [r234_155, r234_156, WPo_some, List.getElem?_cons_succ, List.getElem?_cons_zero, kil_n, kil_i, kil_a, kil_u, kil_l, Option.toList_some, Option.toList_none, List.cons_append, List.nil_append, List.set_cons_succ, List.set_cons_zero, addm1, Nat.reduceAdd, List.length_cons, List.length_nil, Nat.reduceLT]
    exact lO) (k + 1) 0 (by omega) hT
  rw [ovr_0, lu_self] at lS
  have lL := l_fmL (E := E) (c := c + 2) (v := vu (vu v 1 (.int 0)) 0 (.int 0)) h hT hj hm hk (l3 := some (.int (nI M))) (l4 := nI r) (l6 := none) (l7 := none) (Q := Q) (fun _ => by
    simp (disch := first | assumption | omega | decide | (simp only [List.length_cons, List.length_nil, Nat.reduceAdd, Nat.reduceLT]; done) | fail) only [r234_126, r234_127, WPo_some, List.getElem?_cons_succ, List.getElem?_cons_zero, kil_n, kil_i, kil_a, kil_u, kil_l, Option.toList_some, Option.toList_none, List.cons_append, List.nil_append, List.set_cons_succ, List.set_cons_zero, addm1, Nat.reduceAdd, List.length_cons, List.length_nil, Nat.reduceLT]
    exact lS) (fun z => absurd hb z) (k + 1) 0 (by omega) (fun x hx => absurd hx (by omega))
  obtain ⟨r1, x1, ⟨e1, R', e2⟩, w⟩ := WP.ex lL
  rw [vu_vu] at e2
  subst e1 e2
  refine ⟨lu (lu al 96 Z) 26 R', e234 ?_, fun q hq => by rw [lu_ne (by omega), lu_ne (by omega)]⟩
  simp (disch := first | assumption | omega | decide | (simp only [List.length_cons, List.length_nil, Nat.reduceAdd, Nat.reduceLT]; done) | fail) only [r234_0, r234_1, r234_2, r234_5, r234_6, r234_7, r234_11, r234_14, r234_15, r234_18, r234_21, r234_22, r234_23, r234_24, r234_25, r234_26, r234_32, r234_35, r234_36, r234_37, r234_40, r234_46, r234_49, r234_51, r234_52, r234_53, r234_59, r234_62, r234_63, r234_67, r234_68, r234_69, r234_72, r234_73, r234_74, r234_75, r234_76, r234_77, r234_80, r234_81, r234_85, r234_86, r234_87, mh_o h, mh_put h, pm_1, pm_0, gm_0, gm_3, vu_at, q234_8 ht1 h.ci, q234_29 m_isIn, q234_43 m_isIn, q234_56 m_isIn, WPo_some, List.getElem?_cons_succ, List.getElem?_cons_zero, kil_n, kil_i, kil_a, kil_u, kil_l, Option.toList_some, Option.toList_none, List.cons_append, List.nil_append, List.set_cons_succ, List.set_cons_zero, addm1, Nat.reduceAdd, List.length_cons, List.length_nil, Nat.reduceLT, not_true_eq_false, not_false_eq_true, if_true, if_false, or_self, and_self, true_and, and_true, or_true, true_or, false_or, or_false, false_and, and_false, b2i_eq0, c1, c2, c3, show (0 : Int32) ≤ 0 by decide, gI, hm_3 h, m2.1, nI_clamp, nI_toInt, nI_leL, nI_Lle, nI_ltL, nI_Llt, nI_eqL, nI_Leq, nI_leE, nI_ltE, nI_eqE, nI_eqM, nI_add, nI_addL, nI_Ladd, nI_mulL, nI_Lmul, pk_mul, pk_sub, nI_subL, nI_Lsub, i2l_nI, Int.toNat_natCast, Nat.not_lt_zero, Nat.zero_le, ifT, ifF, vu_vu]
  exact w
end FM

/-! Errata of the model: smooth or not -/
theorem az1_val {o : Nat} (ho : 1 ≤ o) : ∀ z (D : Nat → Int64) i, az1 o z D i = if o ≤ i ∧ i < o + z then D i - D (i - 1) else D i
  | 0, D, i => by
    rw [if_neg (by omega)]
    rfl
  | z + 1, D, i => by
    rw [az1, az1_val ho z]
    by_cases y : i = o + z
    · rw [if_neg (by omega), y, vup_at, if_pos (by omega)]
    · by_cases w : o ≤ i ∧ i < o + z
      · rw [if_pos w, if_pos (by omega), vup_ne y, vup_ne (by omega)]
      · rw [if_neg w, if_neg (by omega), vup_ne y]
theorem azO_df {n : Nat} {f : Nat → Int} : ∀ y o (D : Nat → Int64), (∀ i, o ≤ i → i < n → D i = iL (df o f (i - o))) → ∀ i, o + y ≤ i → i < n → azO n y (o + 1) D i = iL (df (o + y) f (i - (o + y)))
  | 0, o, D, h, i, h1, h2 => h i h1 h2
  | y + 1, o, D, h, i, h1, h2 => by
    have ih := azO_df (n := n) (f := f) y (o + 1) (az1 (o + 1) (n - (o + 1)) D) (fun q q1 q2 => by
      rw [az1_val (by omega), if_pos (by omega), h q (by omega) q2, h (q - 1) (by omega) (by omega), iL_sub]
      show iL _ = iL (df o f (q - (o + 1) + 1) - df o f (q - (o + 1)))
      rw [show q - (o + 1) + 1 = q - o by omega, show q - 1 - o = q - (o + 1) by omega]) i (by omega) h2
    rw [show o + (y + 1) = o + 1 + y by omega]
    exact ih
section MSM
variable {E : aEnv} {c m : Nat} {ah : aHp} {ma : Nat → Nat} {v : Nat → Value} {ai : Nat → Nat → Int32} {al : Nat → Nat → Int64} {n k b : Nat}

theorem l_cp265 (h : MO E ah m ma) (hn : n ≤ 20) {N0 : Nat → Int64}  {Q : Option Value → aHp → Prop} (K : WP E c 265 29 [some (.ref m), some (.int (nI n)), some (.int (nI k)), some (.int (nI b)), some (.int (nI n)), none] [] (mh E ah m ma v ai (lu al 71 (ovr N0 0 n (al 70)))) Q) : ∀ z i, i + z = n → WP E c 265 3 [some (.ref m), some (.int (nI n)), some (.int (nI k)), some (.int (nI b)), some (.int (nI i)), none] [] (mh E ah m ma v ai (lu al 71 (ovr N0 0 i (al 70)))) Q
  | 0, i, hz => by
    rw [show i = n by omega, r265_3]
    simp (disch := first | assumption | omega | decide | (simp only [List.length_cons, List.length_nil, Nat.reduceAdd, Nat.reduceLT]; done) | fail) only [r265_5, r265_6, WPo_some, List.getElem?_cons_succ, List.getElem?_cons_zero, kil_n, kil_i, kil_a, kil_u, kil_l, Option.toList_some, Option.toList_none, List.cons_append, List.nil_append, List.set_cons_succ, List.set_cons_zero, addm1, Nat.reduceAdd, List.length_cons, List.length_nil, Nat.reduceLT, nI_clamp, nI_toInt, nI_leL, nI_Lle, nI_ltL, nI_Llt, nI_eqL, nI_Leq, nI_leE, nI_ltE, nI_eqE, nI_eqM, nI_add, nI_addL, nI_Ladd, nI_mulL, nI_Lmul, pk_mul, pk_sub, nI_subL, nI_Lsub, i2l_nI, Int.toNat_natCast, Nat.not_lt_zero, Nat.zero_le, ifT, ifF, not_true_eq_false, not_false_eq_true, if_true, if_false, or_self, and_self, true_and, and_true, or_true, true_or, false_or, or_false, false_and, and_false]
    exact K
  | z + 1, i, hz => by
    have ih := l_cp265 h hn K z (i + 1) (by omega)
    have m2 := vupd_ovr (F := N0) (i := i) (h := al 70) (x := al 70 i) rfl
    rw [r265_3]
    simp (disch := first | assumption | omega | decide | (simp only [List.length_cons, List.length_nil, Nat.reduceAdd, Nat.reduceLT]; done) | fail) only [r265_5, r265_6, r265_9, r265_10, r265_13, r265_15, r265_16, r265_19, r265_21, r265_22, r265_23, r265_26, mh_o h, gm_70, gm_71, gL, pL, hm_70 h, hm_71 h, sm_71 h, lu_at, lu_ne, lu_lu, m2, WPo_some, List.getElem?_cons_succ, List.getElem?_cons_zero, kil_n, kil_i, kil_a, kil_u, kil_l, Option.toList_some, Option.toList_none, List.cons_append, List.nil_append, List.set_cons_succ, List.set_cons_zero, addm1, Nat.reduceAdd, List.length_cons, List.length_nil, Nat.reduceLT, nI_clamp, nI_toInt, nI_leL, nI_Lle, nI_ltL, nI_Llt, nI_eqL, nI_Leq, nI_leE, nI_ltE, nI_eqE, nI_eqM, nI_add, nI_addL, nI_Ladd, nI_mulL, nI_Lmul, pk_mul, pk_sub, nI_subL, nI_Lsub, i2l_nI, Int.toNat_natCast, Nat.not_lt_zero, Nat.zero_le, ifT, ifF, not_true_eq_false, not_false_eq_true, if_true, if_false, or_self, and_self, true_and, and_true, or_true, true_or, false_or, or_false, false_and, and_false]
    exact ih
theorem l_di265 (h : MO E ah m ma) (hn : n ≤ 20)  {o : Nat} (ho : 1 ≤ o) (hon : o ≤ n) {Q : Option Value → aHp → Prop} : ∀ z (D : Nat → Int64), o + z ≤ n → WP E c 265 75 [some (.ref m), some (.int (nI n)), some (.int (nI k)), some (.int (nI b)), some (.int (nI o)), some (.int (nI (o - 1)))] [] (mh E ah m ma v ai (lu al 71 (az1 o z D))) Q → WP E c 265 43 [some (.ref m), some (.int (nI n)), some (.int (nI k)), some (.int (nI b)), some (.int (nI o)), some (.int (nI (o + z - 1)))] [] (mh E ah m ma v ai (lu al 71 D)) Q
  | 0, D, hz, K => by
    rw [r265_43, Nat.add_zero]
    simp (disch := first | assumption | omega | decide | (simp only [List.length_cons, List.length_nil, Nat.reduceAdd, Nat.reduceLT]; done) | fail) only [r265_45, r265_47, WPo_some, List.getElem?_cons_succ, List.getElem?_cons_zero, kil_n, kil_i, kil_a, kil_u, kil_l, Option.toList_some, Option.toList_none, List.cons_append, List.nil_append, List.set_cons_succ, List.set_cons_zero, addm1, Nat.reduceAdd, List.length_cons, List.length_nil, Nat.reduceLT, nI_clamp, nI_toInt, nI_leL, nI_Lle, nI_ltL, nI_Llt, nI_eqL, nI_Leq, nI_leE, nI_ltE, nI_eqE, nI_eqM, nI_add, nI_addL, nI_Ladd, nI_mulL, nI_Lmul, pk_mul, pk_sub, nI_subL, nI_Lsub, i2l_nI, Int.toNat_natCast, Nat.not_lt_zero, Nat.zero_le, ifT, ifF, not_true_eq_false, not_false_eq_true, if_true, if_false, or_self, and_self, true_and, and_true, or_true, true_or, false_or, or_false, false_and, and_false]
    exact K
  | z + 1, D, hz, K => by
    have ih := l_di265 h hn ho hon z (vp_updL D (o + z) (D (o + z) - D (o + z - 1))) (by omega) (Q := Q) K
    have e1 : o + (z + 1) - 1 = o + z := by omega
    rw [r265_43, e1]
    simp (disch := first | assumption | omega | decide | (simp only [List.length_cons, List.length_nil, Nat.reduceAdd, Nat.reduceLT]; done) | fail) only [r265_45, r265_47, r265_50, r265_51, r265_54, r265_56, r265_56l, r265_57, r265_58, r265_59, r265_62, r265_64, r265_65, r265_66, r265_67, r265_68, r265_69, r265_72, mh_o h, gm_71, WPo_some, List.getElem?_cons_succ, List.getElem?_cons_zero, kil_n, kil_i, kil_a, kil_u, kil_l, Option.toList_some, Option.toList_none, List.cons_append, List.nil_append, List.set_cons_succ, List.set_cons_zero, addm1, Nat.reduceAdd, List.length_cons, List.length_nil, Nat.reduceLT, nI_clamp, nI_toInt, nI_leL, nI_Lle, nI_ltL, nI_Llt, nI_eqL, nI_Leq, nI_leE, nI_ltE, nI_eqE, nI_eqM, nI_add, nI_addL, nI_Ladd, nI_mulL, nI_Lmul, pk_mul, pk_sub, nI_subL, nI_Lsub, i2l_nI, Int.toNat_natCast, Nat.not_lt_zero, Nat.zero_le, ifT, ifF, not_true_eq_false, not_false_eq_true, if_true, if_false, or_self, and_self, true_and, and_true, or_true, true_or, false_or, or_false, false_and, and_false, gL, pL, hm_71 h, sm_71 h, lu_at, lu_lu]
    exact ih
theorem l_do265 (h : MO E ah m ma) (hn : n ≤ 20) (hk : k < n)  {Q : Option Value → aHp → Prop} : ∀ y o (D : Nat → Int64) l5, 1 ≤ o → o + y = k + 1 → (∀ l5, WP E c 265 81 [some (.ref m), some (.int (nI n)), some (.int (nI k)), some (.int (nI b)), some (.int (nI (k + 1))), l5] [] (mh E ah m ma v ai (lu al 71 (azO n y o D))) Q) → WP E c 265 32 [some (.ref m), some (.int (nI n)), some (.int (nI k)), some (.int (nI b)), some (.int (nI o)), l5] [] (mh E ah m ma v ai (lu al 71 D)) Q
  | 0, o, D, l5, ho, hy, K => by
    have K := K l5
    rw [r265_32, show o = k + 1 by omega]
    simp (disch := first | assumption | omega | decide | (simp only [List.length_cons, List.length_nil, Nat.reduceAdd, Nat.reduceLT]; done) | fail) only [r265_34, r265_35, WPo_some, List.getElem?_cons_succ, List.getElem?_cons_zero, kil_n, kil_i, kil_a, kil_u, kil_l, Option.toList_some, Option.toList_none, List.cons_append, List.nil_append, List.set_cons_succ, List.set_cons_zero, addm1, Nat.reduceAdd, List.length_cons, List.length_nil, Nat.reduceLT, nI_clamp, nI_toInt, nI_leL, nI_Lle, nI_ltL, nI_Llt, nI_eqL, nI_Leq, nI_leE, nI_ltE, nI_eqE, nI_eqM, nI_add, nI_addL, nI_Ladd, nI_mulL, nI_Lmul, pk_mul, pk_sub, nI_subL, nI_Lsub, i2l_nI, Int.toNat_natCast, Nat.not_lt_zero, Nat.zero_le, ifT, ifF, not_true_eq_false, not_false_eq_true, if_true, if_false, or_self, and_self, true_and, and_true, or_true, true_or, false_or, or_false, false_and, and_false]
    exact K
  | y + 1, o, D, l5, ho, hy, K => by
    have ih := l_do265 h hn hk (Q := Q) y (o + 1) (az1 o (n - o) D) (some (.int (nI (o - 1)))) (by omega) (by omega) K
    have l := l_di265 (E := E) (c := c) (v := v) (ai := ai) (al := al) h hn ho (show o ≤ n by omega) (k := k) (b := b) (Q := Q) (n - o) D (by omega) (by
      simp (disch := first | assumption | omega | decide | (simp only [List.length_cons, List.length_nil, Nat.reduceAdd, Nat.reduceLT]; done) | fail) only [r265_75, r265_78, WPo_some, List.getElem?_cons_succ, List.getElem?_cons_zero, kil_n, kil_i, kil_a, kil_u, kil_l, Option.toList_some, Option.toList_none, List.cons_append, List.nil_append, List.set_cons_succ, List.set_cons_zero, addm1, Nat.reduceAdd, List.length_cons, List.length_nil, Nat.reduceLT, nI_clamp, nI_toInt, nI_leL, nI_Lle, nI_ltL, nI_Llt, nI_eqL, nI_Leq, nI_leE, nI_ltE, nI_eqE, nI_eqM, nI_add, nI_addL, nI_Ladd, nI_mulL, nI_Lmul, pk_mul, pk_sub, nI_subL, nI_Lsub, i2l_nI, Int.toNat_natCast, Nat.not_lt_zero, Nat.zero_le, ifT, ifF, not_true_eq_false, not_false_eq_true, if_true, if_false, or_self, and_self, true_and, and_true, or_true, true_or, false_or, or_false, false_and, and_false]
      exact ih)
    rw [show o + (n - o) - 1 = n - 1 by omega] at l
    rw [r265_32]
    simp (disch := first | assumption | omega | decide | (simp only [List.length_cons, List.length_nil, Nat.reduceAdd, Nat.reduceLT]; done) | fail) only [r265_34, r265_35, r265_38, r265_39, r265_40, r265_41, WPo_some, List.getElem?_cons_succ, List.getElem?_cons_zero, kil_n, kil_i, kil_a, kil_u, kil_l, Option.toList_some, Option.toList_none, List.cons_append, List.nil_append, List.set_cons_succ, List.set_cons_zero, addm1, Nat.reduceAdd, List.length_cons, List.length_nil, Nat.reduceLT, nI_clamp, nI_toInt, nI_leL, nI_Lle, nI_ltL, nI_Llt, nI_eqL, nI_Leq, nI_leE, nI_ltE, nI_eqE, nI_eqM, nI_add, nI_addL, nI_Ladd, nI_mulL, nI_Lmul, pk_mul, pk_sub, nI_subL, nI_Lsub, i2l_nI, Int.toNat_natCast, Nat.not_lt_zero, Nat.zero_le, ifT, ifF, not_true_eq_false, not_false_eq_true, if_true, if_false, or_self, and_self, true_and, and_true, or_true, true_or, false_or, or_false, false_and, and_false]
    exact l

theorem l_cp268 (h : MO E ah m ma) (hn : n ≤ 20) {N0 : Nat → Int64} {x4 x5 : Int32} {Q : Option Value → aHp → Prop} (K : WP E c 268 29 [some (.ref m), some (.int (nI n)), some (.int (nI k)), some (.int (nI b)), some (.int x4), some (.int x5), some (.int (nI n)), none] [] (mh E ah m ma v ai (lu al 71 (ovr N0 0 n (al 70)))) Q) : ∀ z i, i + z = n → WP E c 268 3 [some (.ref m), some (.int (nI n)), some (.int (nI k)), some (.int (nI b)), some (.int x4), some (.int x5), some (.int (nI i)), none] [] (mh E ah m ma v ai (lu al 71 (ovr N0 0 i (al 70)))) Q
  | 0, i, hz => by
    rw [show i = n by omega, r268_3]
    simp (disch := first | assumption | omega | decide | (simp only [List.length_cons, List.length_nil, Nat.reduceAdd, Nat.reduceLT]; done) | fail) only [r268_5, r268_6, WPo_some, List.getElem?_cons_succ, List.getElem?_cons_zero, kil_n, kil_i, kil_a, kil_u, kil_l, Option.toList_some, Option.toList_none, List.cons_append, List.nil_append, List.set_cons_succ, List.set_cons_zero, addm1, Nat.reduceAdd, List.length_cons, List.length_nil, Nat.reduceLT, nI_clamp, nI_toInt, nI_leL, nI_Lle, nI_ltL, nI_Llt, nI_eqL, nI_Leq, nI_leE, nI_ltE, nI_eqE, nI_eqM, nI_add, nI_addL, nI_Ladd, nI_mulL, nI_Lmul, pk_mul, pk_sub, nI_subL, nI_Lsub, i2l_nI, Int.toNat_natCast, Nat.not_lt_zero, Nat.zero_le, ifT, ifF, not_true_eq_false, not_false_eq_true, if_true, if_false, or_self, and_self, true_and, and_true, or_true, true_or, false_or, or_false, false_and, and_false]
    exact K
  | z + 1, i, hz => by
    have ih := l_cp268 h hn K z (i + 1) (by omega)
    have m2 := vupd_ovr (F := N0) (i := i) (h := al 70) (x := al 70 i) rfl
    rw [r268_3]
    simp (disch := first | assumption | omega | decide | (simp only [List.length_cons, List.length_nil, Nat.reduceAdd, Nat.reduceLT]; done) | fail) only [r268_5, r268_6, r268_9, r268_10, r268_13, r268_15, r268_16, r268_19, r268_21, r268_22, r268_23, r268_26, mh_o h, gm_70, gm_71, gL, pL, hm_70 h, hm_71 h, sm_71 h, lu_at, lu_ne, lu_lu, m2, WPo_some, List.getElem?_cons_succ, List.getElem?_cons_zero, kil_n, kil_i, kil_a, kil_u, kil_l, Option.toList_some, Option.toList_none, List.cons_append, List.nil_append, List.set_cons_succ, List.set_cons_zero, addm1, Nat.reduceAdd, List.length_cons, List.length_nil, Nat.reduceLT, nI_clamp, nI_toInt, nI_leL, nI_Lle, nI_ltL, nI_Llt, nI_eqL, nI_Leq, nI_leE, nI_ltE, nI_eqE, nI_eqM, nI_add, nI_addL, nI_Ladd, nI_mulL, nI_Lmul, pk_mul, pk_sub, nI_subL, nI_Lsub, i2l_nI, Int.toNat_natCast, Nat.not_lt_zero, Nat.zero_le, ifT, ifF, not_true_eq_false, not_false_eq_true, if_true, if_false, or_self, and_self, true_and, and_true, or_true, true_or, false_or, or_false, false_and, and_false]
    exact ih
theorem l_di268 (h : MO E ah m ma) (hn : n ≤ 20) {x4 x5 : Int32} {o : Nat} (ho : 1 ≤ o) (hon : o ≤ n) {Q : Option Value → aHp → Prop} : ∀ z (D : Nat → Int64), o + z ≤ n → WP E c 268 75 [some (.ref m), some (.int (nI n)), some (.int (nI k)), some (.int (nI b)), some (.int x4), some (.int x5), some (.int (nI o)), some (.int (nI (o - 1)))] [] (mh E ah m ma v ai (lu al 71 (az1 o z D))) Q → WP E c 268 43 [some (.ref m), some (.int (nI n)), some (.int (nI k)), some (.int (nI b)), some (.int x4), some (.int x5), some (.int (nI o)), some (.int (nI (o + z - 1)))] [] (mh E ah m ma v ai (lu al 71 D)) Q
  | 0, D, hz, K => by
    rw [r268_43, Nat.add_zero]
    simp (disch := first | assumption | omega | decide | (simp only [List.length_cons, List.length_nil, Nat.reduceAdd, Nat.reduceLT]; done) | fail) only [r268_45, r268_47, WPo_some, List.getElem?_cons_succ, List.getElem?_cons_zero, kil_n, kil_i, kil_a, kil_u, kil_l, Option.toList_some, Option.toList_none, List.cons_append, List.nil_append, List.set_cons_succ, List.set_cons_zero, addm1, Nat.reduceAdd, List.length_cons, List.length_nil, Nat.reduceLT, nI_clamp, nI_toInt, nI_leL, nI_Lle, nI_ltL, nI_Llt, nI_eqL, nI_Leq, nI_leE, nI_ltE, nI_eqE, nI_eqM, nI_add, nI_addL, nI_Ladd, nI_mulL, nI_Lmul, pk_mul, pk_sub, nI_subL, nI_Lsub, i2l_nI, Int.toNat_natCast, Nat.not_lt_zero, Nat.zero_le, ifT, ifF, not_true_eq_false, not_false_eq_true, if_true, if_false, or_self, and_self, true_and, and_true, or_true, true_or, false_or, or_false, false_and, and_false]
    exact K
  | z + 1, D, hz, K => by
    have ih := l_di268 h hn ho hon z (vp_updL D (o + z) (D (o + z) - D (o + z - 1))) (by omega) (x4 := x4) (x5 := x5) (Q := Q) K
    have e1 : o + (z + 1) - 1 = o + z := by omega
    rw [r268_43, e1]
    simp (disch := first | assumption | omega | decide | (simp only [List.length_cons, List.length_nil, Nat.reduceAdd, Nat.reduceLT]; done) | fail) only [r268_45, r268_47, r268_50, r268_51, r268_54, r268_56, r268_56l, r268_57, r268_58, r268_59, r268_62, r268_64, r268_65, r268_66, r268_67, r268_68, r268_69, r268_72, mh_o h, gm_71, WPo_some, List.getElem?_cons_succ, List.getElem?_cons_zero, kil_n, kil_i, kil_a, kil_u, kil_l, Option.toList_some, Option.toList_none, List.cons_append, List.nil_append, List.set_cons_succ, List.set_cons_zero, addm1, Nat.reduceAdd, List.length_cons, List.length_nil, Nat.reduceLT, nI_clamp, nI_toInt, nI_leL, nI_Lle, nI_ltL, nI_Llt, nI_eqL, nI_Leq, nI_leE, nI_ltE, nI_eqE, nI_eqM, nI_add, nI_addL, nI_Ladd, nI_mulL, nI_Lmul, pk_mul, pk_sub, nI_subL, nI_Lsub, i2l_nI, Int.toNat_natCast, Nat.not_lt_zero, Nat.zero_le, ifT, ifF, not_true_eq_false, not_false_eq_true, if_true, if_false, or_self, and_self, true_and, and_true, or_true, true_or, false_or, or_false, false_and, and_false, gL, pL, hm_71 h, sm_71 h, lu_at, lu_lu]
    exact ih
theorem l_do268 (h : MO E ah m ma) (hn : n ≤ 20) (hk : k < n) {x4 x5 : Int32} {Q : Option Value → aHp → Prop} : ∀ y o (D : Nat → Int64) l5, 1 ≤ o → o + y = k + 1 → (∀ l5, WP E c 268 81 [some (.ref m), some (.int (nI n)), some (.int (nI k)), some (.int (nI b)), some (.int x4), some (.int x5), some (.int (nI (k + 1))), l5] [] (mh E ah m ma v ai (lu al 71 (azO n y o D))) Q) → WP E c 268 32 [some (.ref m), some (.int (nI n)), some (.int (nI k)), some (.int (nI b)), some (.int x4), some (.int x5), some (.int (nI o)), l5] [] (mh E ah m ma v ai (lu al 71 D)) Q
  | 0, o, D, l5, ho, hy, K => by
    have K := K l5
    rw [r268_32, show o = k + 1 by omega]
    simp (disch := first | assumption | omega | decide | (simp only [List.length_cons, List.length_nil, Nat.reduceAdd, Nat.reduceLT]; done) | fail) only [r268_34, r268_35, WPo_some, List.getElem?_cons_succ, List.getElem?_cons_zero, kil_n, kil_i, kil_a, kil_u, kil_l, Option.toList_some, Option.toList_none, List.cons_append, List.nil_append, List.set_cons_succ, List.set_cons_zero, addm1, Nat.reduceAdd, List.length_cons, List.length_nil, Nat.reduceLT, nI_clamp, nI_toInt, nI_leL, nI_Lle, nI_ltL, nI_Llt, nI_eqL, nI_Leq, nI_leE, nI_ltE, nI_eqE, nI_eqM, nI_add, nI_addL, nI_Ladd, nI_mulL, nI_Lmul, pk_mul, pk_sub, nI_subL, nI_Lsub, i2l_nI, Int.toNat_natCast, Nat.not_lt_zero, Nat.zero_le, ifT, ifF, not_true_eq_false, not_false_eq_true, if_true, if_false, or_self, and_self, true_and, and_true, or_true, true_or, false_or, or_false, false_and, and_false]
    exact K
  | y + 1, o, D, l5, ho, hy, K => by
    have ih := l_do268 h hn hk (x4 := x4) (x5 := x5) (Q := Q) y (o + 1) (az1 o (n - o) D) (some (.int (nI (o - 1)))) (by omega) (by omega) K
    have l := l_di268 (E := E) (c := c) (v := v) (ai := ai) (al := al) h hn (x4 := x4) (x5 := x5) ho (show o ≤ n by omega) (k := k) (b := b) (Q := Q) (n - o) D (by omega) (by
      simp (disch := first | assumption | omega | decide | (simp only [List.length_cons, List.length_nil, Nat.reduceAdd, Nat.reduceLT]; done) | fail) only [r268_75, r268_78, WPo_some, List.getElem?_cons_succ, List.getElem?_cons_zero, kil_n, kil_i, kil_a, kil_u, kil_l, Option.toList_some, Option.toList_none, List.cons_append, List.nil_append, List.set_cons_succ, List.set_cons_zero, addm1, Nat.reduceAdd, List.length_cons, List.length_nil, Nat.reduceLT, nI_clamp, nI_toInt, nI_leL, nI_Lle, nI_ltL, nI_Llt, nI_eqL, nI_Leq, nI_leE, nI_ltE, nI_eqE, nI_eqM, nI_add, nI_addL, nI_Ladd, nI_mulL, nI_Lmul, pk_mul, pk_sub, nI_subL, nI_Lsub, i2l_nI, Int.toNat_natCast, Nat.not_lt_zero, Nat.zero_le, ifT, ifF, not_true_eq_false, not_false_eq_true, if_true, if_false, or_self, and_self, true_and, and_true, or_true, true_or, false_or, or_false, false_and, and_false]
      exact ih)
    rw [show o + (n - o) - 1 = n - 1 by omega] at l
    rw [r268_32]
    simp (disch := first | assumption | omega | decide | (simp only [List.length_cons, List.length_nil, Nat.reduceAdd, Nat.reduceLT]; done) | fail) only [r268_34, r268_35, r268_38, r268_39, r268_40, r268_41, WPo_some, List.getElem?_cons_succ, List.getElem?_cons_zero, kil_n, kil_i, kil_a, kil_u, kil_l, Option.toList_some, Option.toList_none, List.cons_append, List.nil_append, List.set_cons_succ, List.set_cons_zero, addm1, Nat.reduceAdd, List.length_cons, List.length_nil, Nat.reduceLT, nI_clamp, nI_toInt, nI_leL, nI_Lle, nI_ltL, nI_Llt, nI_eqL, nI_Leq, nI_leE, nI_ltE, nI_eqE, nI_eqM, nI_add, nI_addL, nI_Ladd, nI_mulL, nI_Lmul, pk_mul, pk_sub, nI_subL, nI_Lsub, i2l_nI, Int.toNat_natCast, Nat.not_lt_zero, Nat.zero_le, ifT, ifF, not_true_eq_false, not_false_eq_true, if_true, if_false, or_self, and_self, true_and, and_true, or_true, true_or, false_or, or_false, false_and, and_false]
    exact l
theorem df_c {f g : Nat → Int} {n : Nat} (h : ∀ i, i < n → f i = g i) : ∀ k t, t + k < n → df k f t = df k g t
  | 0, t, ht => h t (by omega)
  | k + 1, t, ht => by
    show df k f (t + 1) - df k f t = df k g (t + 1) - df k g t
    rw [df_c h k (t + 1) (by omega), df_c h k t (by omega)]
theorem lf_val (hk : k < n) {N0 : Nat → Int64} {W : Nat → Int} (hW : ∀ i, i < n → al 70 i = iL (W i)) : ∀ t, t + k < n → azO n k 1 (ovr N0 0 n (al 70)) (t + k) = iL (df k W t) := fun t ht => by
  have e := azO_df (n := n) (f := W) k 0 (ovr N0 0 n (al 70)) (fun i _ hi => by rw [ovr0_in hi, hW i hi]; rfl) (t + k) (by omega) ht
  rw [show 0 + k = k by omega, show t + k - k = t by omega] at e
  exact e
theorem m_isSmooth (h : MO E ah m ma) (h1 : 1 ≤ k) (hn : n ≤ 20) (hkn : k < n) (hb : b ≤ 1000) {W : Nat → Int} (hW : ∀ i, i < n → al 70 i = iL (W i)) (hB : ∀ t, t + k < n → (df k W t).natAbs ≤ 1600000000) : ∃ r L, EV E (c + 1) 265 [.ref m, .int (nI n), .int (nI k), .int (nI b)] (mh E ah m ma v ai al) (some (.int r)) (mh E ah m ma v ai (lu al 71 L)) ∧ ((r = 1 ∧ smo n k b W) ∨ (r = 0 ∧ ¬ smo n k b W)) := by
  have lf := lf_val (al := al) (k := k) (N0 := al 71) hkn hW
  let L := azO n k 1 (ovr (al 71) 0 n (al 70))
  have eb : (nI b).toInt64 = iL b := iL_nI (by omega)
  have loop : ∀ z t l5, t + z = n - k → (∀ q, q < t → (df k W q).natAbs ≤ b) → ∃ r, WP E (c + 1) 265 84 [some (.ref m), some (.int (nI n)), some (.int (nI k)), some (.int (nI b)), some (.int (nI (t + k))), l5] [] (mh E ah m ma v ai (lu al 71 L)) (fun r1 x => r1 = some (.int r) ∧ x = mh E ah m ma v ai (lu al 71 L)) ∧ ((r = 1 ∧ smo n k b W) ∨ (r = 0 ∧ ¬ smo n k b W)) := by
    intro z
    induction z with
    | zero =>
      intro t l5 hz hq
      refine ⟨1, ?_, Or.inl ⟨rfl, fun q hq' => hq q (by omega)⟩⟩
      rw [r265_84]
      simp (disch := first | assumption | omega | decide | (simp only [List.length_cons, List.length_nil, Nat.reduceAdd, Nat.reduceLT]; done) | fail) only [r265_86, r265_87, r265_114, r265_115 (x := 0) (Or.inl rfl), r265_115 (x := 1) (Or.inr rfl), r265_115 (b2i_or _), show n ≤ t + k by omega, WPo_some, List.getElem?_cons_succ, List.getElem?_cons_zero, kil_n, kil_i, kil_a, kil_u, kil_l, Option.toList_some, Option.toList_none, List.cons_append, List.nil_append, List.set_cons_succ, List.set_cons_zero, addm1, Nat.reduceAdd, List.length_cons, List.length_nil, Nat.reduceLT, nI_clamp, nI_toInt, nI_leL, nI_Lle, nI_ltL, nI_Llt, nI_eqL, nI_Leq, nI_leE, nI_ltE, nI_eqE, nI_eqM, nI_add, nI_addL, nI_Ladd, nI_mulL, nI_Lmul, pk_mul, pk_sub, nI_subL, nI_Lsub, i2l_nI, Int.toNat_natCast, Nat.not_lt_zero, Nat.zero_le, ifT, ifF, not_true_eq_false, not_false_eq_true, if_true, if_false, or_self, and_self, true_and, and_true, or_true, true_or, false_or, or_false, false_and, and_false]
    | succ z ih =>
      intro t l5 hz hq
      have ev : L (t + k) = iL (df k W t) := lf t (by omega)
      have bd := hB t (by omega)
      have ka := c_absL (E := E) (c := c) (ah := mh E ah m ma v ai (lu al 71 L)) (x := iL (df k W t)) (by rw [iL_toInt (by omega) (by omega)]; omega)
      rw [iL_abs (by omega)] at ka
      have cl : (iL ((df k W t).natAbs : Int) ≤ iL (b : Int)) = ((df k W t).natAbs ≤ b) := by
        rw [iL_le (by omega) (by omega) (by omega) (by omega)]
        apply propext
        omega
      by_cases y : (df k W t).natAbs ≤ b
      · obtain ⟨r, w, hr⟩ := ih (t + 1) l5 (by omega) (fun q hq' => by
          by_cases e : q = t
          · rw [e]; exact y
          · exact hq q (by omega))
        refine ⟨r, ?_, hr⟩
        rw [show t + 1 + k = t + k + 1 by omega] at w
        rw [r265_84]
        simp (disch := first | assumption | omega | decide | (simp only [List.length_cons, List.length_nil, Nat.reduceAdd, Nat.reduceLT]; done) | fail) only [r265_86, r265_87, r265_90, r265_91, r265_94, r265_96, r265_100, r265_101, r265_102, r265_103, r265_106, r265_107 (x := 0) (Or.inl rfl), r265_107 (x := 1) (Or.inr rfl), r265_107 (b2i_or _), r265_108, r265_111, mh_o h, gm_71, gL, hm_71 h, lu_at, ev, eb, q265_97 ka, lg_cmp_le, cl, y, WPo_some, List.getElem?_cons_succ, List.getElem?_cons_zero, kil_n, kil_i, kil_a, kil_u, kil_l, Option.toList_some, Option.toList_none, List.cons_append, List.nil_append, List.set_cons_succ, List.set_cons_zero, addm1, Nat.reduceAdd, List.length_cons, List.length_nil, Nat.reduceLT, nI_clamp, nI_toInt, nI_leL, nI_Lle, nI_ltL, nI_Llt, nI_eqL, nI_Leq, nI_leE, nI_ltE, nI_eqE, nI_eqM, nI_add, nI_addL, nI_Ladd, nI_mulL, nI_Lmul, pk_mul, pk_sub, nI_subL, nI_Lsub, i2l_nI, Int.toNat_natCast, Nat.not_lt_zero, Nat.zero_le, ifT, ifF, not_true_eq_false, not_false_eq_true, if_true, if_false, or_self, and_self, true_and, and_true, or_true, true_or, false_or, or_false, false_and, and_false]
        exact w
      · refine ⟨0, ?_, Or.inr ⟨rfl, fun hs => y (hs t (by omega))⟩⟩
        rw [r265_84]
        simp (disch := first | assumption | omega | decide | (simp only [List.length_cons, List.length_nil, Nat.reduceAdd, Nat.reduceLT]; done) | fail) only [r265_86, r265_87, r265_90, r265_91, r265_94, r265_96, r265_100, r265_101, r265_102, r265_103, r265_106, r265_107 (x := 0) (Or.inl rfl), r265_107 (x := 1) (Or.inr rfl), r265_107 (b2i_or _), mh_o h, gm_71, gL, hm_71 h, lu_at, ev, eb, q265_97 ka, lg_cmp_le, cl, y, WPo_some, List.getElem?_cons_succ, List.getElem?_cons_zero, kil_n, kil_i, kil_a, kil_u, kil_l, Option.toList_some, Option.toList_none, List.cons_append, List.nil_append, List.set_cons_succ, List.set_cons_zero, addm1, Nat.reduceAdd, List.length_cons, List.length_nil, Nat.reduceLT, nI_clamp, nI_toInt, nI_leL, nI_Lle, nI_ltL, nI_Llt, nI_eqL, nI_Leq, nI_leE, nI_ltE, nI_eqE, nI_eqM, nI_add, nI_addL, nI_Ladd, nI_mulL, nI_Lmul, pk_mul, pk_sub, nI_subL, nI_Lsub, i2l_nI, Int.toNat_natCast, Nat.not_lt_zero, Nat.zero_le, ifT, ifF, not_true_eq_false, not_false_eq_true, if_true, if_false, or_self, and_self, true_and, and_true, or_true, true_or, false_or, or_false, false_and, and_false]
  let Q : Option Value → aHp → Prop := fun r1 x => ∃ r, r1 = some (.int r) ∧ x = mh E ah m ma v ai (lu al 71 L) ∧ ((r = 1 ∧ smo n k b W) ∨ (r = 0 ∧ ¬ smo n k b W))
  have main := l_cp265 (E := E) (c := c + 1) (v := v) (ai := ai) (al := al) (k := k) (b := b) h hn (N0 := al 71) (Q := Q) (by
    have l := l_do265 (E := E) (c := c + 1) (v := v) (ai := ai) (al := al) (b := b) h hn hkn (Q := Q) k 1 (ovr (al 71) 0 n (al 70)) none (by omega) (by omega) (fun l5 => by
      obtain ⟨r, w, hr⟩ := loop (n - k) 0 l5 (by omega) (fun q hq => absurd hq (by omega))
      rw [Nat.zero_add] at w
      have w' := WP.mono w (Q' := Q) (by
        rintro r1 x ⟨e1, e2⟩
        exact ⟨r, e1, e2, hr⟩)
      simp (disch := first | assumption | omega | decide | (simp only [List.length_cons, List.length_nil, Nat.reduceAdd, Nat.reduceLT]; done) | fail) only [r265_81, r265_82, WPo_some, List.getElem?_cons_succ, List.getElem?_cons_zero, kil_n, kil_i, kil_a, kil_u, kil_l, Option.toList_some, Option.toList_none, List.cons_append, List.nil_append, List.set_cons_succ, List.set_cons_zero, addm1, Nat.reduceAdd, List.length_cons, List.length_nil, Nat.reduceLT, nI_clamp, nI_toInt, nI_leL, nI_Lle, nI_ltL, nI_Llt, nI_eqL, nI_Leq, nI_leE, nI_ltE, nI_eqE, nI_eqM, nI_add, nI_addL, nI_Ladd, nI_mulL, nI_Lmul, pk_mul, pk_sub, nI_subL, nI_Lsub, i2l_nI, Int.toNat_natCast, Nat.not_lt_zero, Nat.zero_le, ifT, ifF, not_true_eq_false, not_false_eq_true, if_true, if_false, or_self, and_self, true_and, and_true, or_true, true_or, false_or, or_false, false_and, and_false]
      exact w')
    simp (disch := first | assumption | omega | decide | (simp only [List.length_cons, List.length_nil, Nat.reduceAdd, Nat.reduceLT]; done) | fail) only [r265_29, r265_30, WPo_some, List.getElem?_cons_succ, List.getElem?_cons_zero, kil_n, kil_i, kil_a, kil_u, kil_l, Option.toList_some, Option.toList_none, List.cons_append, List.nil_append, List.set_cons_succ, List.set_cons_zero, addm1, Nat.reduceAdd, List.length_cons, List.length_nil, Nat.reduceLT, nI_clamp, nI_toInt, nI_leL, nI_Lle, nI_ltL, nI_Llt, nI_eqL, nI_Leq, nI_leE, nI_ltE, nI_eqE, nI_eqM, nI_add, nI_addL, nI_Ladd, nI_mulL, nI_Lmul, pk_mul, pk_sub, nI_subL, nI_Lsub, i2l_nI, Int.toNat_natCast, Nat.not_lt_zero, Nat.zero_le, ifT, ifF, not_true_eq_false, not_false_eq_true, if_true, if_false, or_self, and_self, true_and, and_true, or_true, true_or, false_or, or_false, false_and, and_false]
    exact l) n 0 (by omega)
  rw [ovr_0, lu_self] at main
  obtain ⟨r1, x1, ⟨r, e1, e2, e3⟩, w⟩ := WP.ex main
  subst e1 e2
  refine ⟨r, L, e265 ?_, e3⟩
  simp (disch := first | assumption | omega | decide | (simp only [List.length_cons, List.length_nil, Nat.reduceAdd, Nat.reduceLT]; done) | fail) only [r265_0, r265_1, WPo_some, List.getElem?_cons_succ, List.getElem?_cons_zero, kil_n, kil_i, kil_a, kil_u, kil_l, Option.toList_some, Option.toList_none, List.cons_append, List.nil_append, List.set_cons_succ, List.set_cons_zero, addm1, Nat.reduceAdd, List.length_cons, List.length_nil, Nat.reduceLT]
  exact w
theorem m_isElsewhere (h : MO E ah m ma) (h1 : 1 ≤ k) (hn : n ≤ 20) (hkn : k < n) (hb : b ≤ 1000) {W : Nat → Int} (hW : ∀ i, i < n → al 70 i = iL (W i)) (hB : ∀ t, t + k < n → (df k W t).natAbs ≤ 1600000000) {i j : Nat} (hi : i < 20) (hj : j < 20) : ∃ r L, EV E (c + 1) 268 [.ref m, .int (nI n), .int (nI k), .int (nI b), .int (nI i), .int (nI j)] (mh E ah m ma v ai al) (some (.int r)) (mh E ah m ma v ai (lu al 71 L)) ∧ ((r = 1 ∧ ¬ Rgh n k b (df k W) (some i) (some j)) ∨ (r = 0 ∧ Rgh n k b (df k W) (some i) (some j))) := by
  have lf := lf_val (al := al) (k := k) (N0 := al 71) hkn hW
  let L := azO n k 1 (ovr (al 71) 0 n (al 70))
  have eb : (nI b).toInt64 = iL b := iL_nI (by omega)
  have loop : ∀ z t l5, t + z = n - k → (∀ q, q < t → ¬ (fre k (some i) q ∧ fre k (some j) q ∧ b < (df k W q).natAbs)) → ∃ r, WP E (c + 1) 268 84 [some (.ref m), some (.int (nI n)), some (.int (nI k)), some (.int (nI b)), some (.int (nI i)), some (.int (nI j)), some (.int (nI (t + k))), l5] [] (mh E ah m ma v ai (lu al 71 L)) (fun r1 x => r1 = some (.int r) ∧ x = mh E ah m ma v ai (lu al 71 L)) ∧ ((r = 1 ∧ ¬ Rgh n k b (df k W) (some i) (some j)) ∨ (r = 0 ∧ Rgh n k b (df k W) (some i) (some j))) := by
    intro z
    induction z with
    | zero =>
      intro t l5 hz hq
      refine ⟨1, ?_, Or.inl ⟨rfl, ?_⟩⟩
      · rw [r268_84]
        simp (disch := first | assumption | omega | decide | (simp only [List.length_cons, List.length_nil, Nat.reduceAdd, Nat.reduceLT]; done) | fail) only [r268_86, r268_87, r268_148, r268_149 (x := 0) (Or.inl rfl), r268_149 (x := 1) (Or.inr rfl), r268_149 (b2i_or _), show n ≤ t + k by omega, WPo_some, List.getElem?_cons_succ, List.getElem?_cons_zero, kil_n, kil_i, kil_a, kil_u, kil_l, Option.toList_some, Option.toList_none, List.cons_append, List.nil_append, List.set_cons_succ, List.set_cons_zero, addm1, Nat.reduceAdd, List.length_cons, List.length_nil, Nat.reduceLT, nI_clamp, nI_toInt, nI_leL, nI_Lle, nI_ltL, nI_Llt, nI_eqL, nI_Leq, nI_leE, nI_ltE, nI_eqE, nI_eqM, nI_add, nI_addL, nI_Ladd, nI_mulL, nI_Lmul, pk_mul, pk_sub, nI_subL, nI_Lsub, i2l_nI, Int.toNat_natCast, Nat.not_lt_zero, Nat.zero_le, ifT, ifF, not_true_eq_false, not_false_eq_true, if_true, if_false, or_self, and_self, true_and, and_true, or_true, true_or, false_or, or_false, false_and, and_false]
      · rintro ⟨q, q1, q2⟩
        exact hq q (by omega) q2
    | succ z ih =>
      intro t l5 hz hq
      have ev : L (t + k) = iL (df k W t) := lf t (by omega)
      have bd := hB t (by omega)
      have ka := c_absL (E := E) (c := c) (ah := mh E ah m ma v ai (lu al 71 L)) (x := iL (df k W t)) (by rw [iL_toInt (by omega) (by omega)]; omega)
      rw [iL_abs (by omega)] at ka
      have cl : (iL ((df k W t).natAbs : Int) ≤ iL (b : Int)) = ((df k W t).natAbs ≤ b) := by
        rw [iL_le (by omega) (by omega) (by omega) (by omega)]
        apply propext
        omega
      have inn : ∀ q, q < 20 → ((nI t).toInt64 ≤ (nI q).toInt64 ∧ (nI q).toInt64 ≤ (nI (t + k)).toInt64) = ¬ fre k (some q) t := by
        intro q hq
        have e : fre k (some q) t = (q < t ∨ t + k < q) := rfl
        rw [e]
        simp only [i64_le, i2l_nI (show t < 2 ^ 31 by omega), i2l_nI (show q < 2 ^ 31 by omega), i2l_nI (show t + k < 2 ^ 31 by omega)]
        apply propext
        omega
      have ni := inn i hi
      have nj := inn j hj
      have next : ¬ (fre k (some i) t ∧ fre k (some j) t ∧ b < (df k W t).natAbs) → ∃ r, WP E (c + 1) 268 84 [some (.ref m), some (.int (nI n)), some (.int (nI k)), some (.int (nI b)), some (.int (nI i)), some (.int (nI j)), some (.int (nI (t + k + 1))), l5] [] (mh E ah m ma v ai (lu al 71 L)) (fun r1 x => r1 = some (.int r) ∧ x = mh E ah m ma v ai (lu al 71 L)) ∧ ((r = 1 ∧ ¬ Rgh n k b (df k W) (some i) (some j)) ∨ (r = 0 ∧ Rgh n k b (df k W) (some i) (some j))) := fun hh => by
        have := ih (t + 1) l5 (by omega) (fun q hq' => by
          by_cases e : q = t
          · rw [e]; exact hh
          · exact hq q (by omega))
        rw [show t + 1 + k = t + k + 1 by omega] at this
        exact this
      have sb : t + k - k = t := by omega
      by_cases y : (df k W t).natAbs ≤ b
      · obtain ⟨r, w, hr⟩ := next (fun z => by have := z.2.2; omega)
        refine ⟨r, ?_, hr⟩
        rw [r268_84]
        simp (disch := first | assumption | omega | decide | (simp only [List.length_cons, List.length_nil, Nat.reduceAdd, Nat.reduceLT]; done) | fail) only [r268_86, r268_87, r268_90, r268_91, r268_94, r268_96, r268_100, r268_101, r268_102, r268_103, r268_142, r268_145, mh_o h, gm_71, gL, hm_71 h, lu_at, ev, eb, q268_97 ka, lg_cmp_le, cl, y, WPo_some, List.getElem?_cons_succ, List.getElem?_cons_zero, kil_n, kil_i, kil_a, kil_u, kil_l, Option.toList_some, Option.toList_none, List.cons_append, List.nil_append, List.set_cons_succ, List.set_cons_zero, addm1, Nat.reduceAdd, List.length_cons, List.length_nil, Nat.reduceLT, nI_clamp, nI_toInt, nI_leL, nI_Lle, nI_ltL, nI_Llt, nI_eqL, nI_Leq, nI_leE, nI_ltE, nI_eqE, nI_eqM, nI_add, nI_addL, nI_Ladd, nI_mulL, nI_Lmul, pk_mul, pk_sub, nI_subL, nI_Lsub, i2l_nI, Int.toNat_natCast, Nat.not_lt_zero, Nat.zero_le, ifT, ifF, not_true_eq_false, not_false_eq_true, if_true, if_false, or_self, and_self, true_and, and_true, or_true, true_or, false_or, or_false, false_and, and_false]
        exact w
      · by_cases yi : fre k (some i) t
        · by_cases yj : fre k (some j) t
          · refine ⟨0, ?_, Or.inr ⟨rfl, t, by omega, yi, yj, by omega⟩⟩
            rw [r268_84]
            simp (disch := first | assumption | omega | decide | (simp only [List.length_cons, List.length_nil, Nat.reduceAdd, Nat.reduceLT]; done) | fail) only [r268_86, r268_87, r268_90, r268_91, r268_94, r268_96, r268_100, r268_101, r268_102, r268_103, r268_106, r268_108, r268_109, r268_111, r268_112, r268_113, r268_114, r268_116, r268_120, r268_123, r268_125, r268_126, r268_128, r268_129, r268_130, r268_131, r268_133, r268_137, r268_140, r268_141 (x := 0) (Or.inl rfl), r268_141 (x := 1) (Or.inr rfl), r268_141 (b2i_or _), mh_o h, gm_71, gL, hm_71 h, lu_at, ev, eb, q268_97 ka, lg_cmp_le, cl, y, sb, q268_117 m_isIn, q268_134 m_isIn, b2i_eq0, ni, nj, yi, yj, WPo_some, List.getElem?_cons_succ, List.getElem?_cons_zero, kil_n, kil_i, kil_a, kil_u, kil_l, Option.toList_some, Option.toList_none, List.cons_append, List.nil_append, List.set_cons_succ, List.set_cons_zero, addm1, Nat.reduceAdd, List.length_cons, List.length_nil, Nat.reduceLT, nI_clamp, nI_toInt, nI_leL, nI_Lle, nI_ltL, nI_Llt, nI_eqL, nI_Leq, nI_leE, nI_ltE, nI_eqE, nI_eqM, nI_add, nI_addL, nI_Ladd, nI_mulL, nI_Lmul, pk_mul, pk_sub, nI_subL, nI_Lsub, i2l_nI, Int.toNat_natCast, Nat.not_lt_zero, Nat.zero_le, ifT, ifF, not_true_eq_false, not_false_eq_true, if_true, if_false, or_self, and_self, true_and, and_true, or_true, true_or, false_or, or_false, false_and, and_false]
          · obtain ⟨r, w, hr⟩ := next (fun z => yj z.2.1)
            refine ⟨r, ?_, hr⟩
            rw [r268_84]
            simp (disch := first | assumption | omega | decide | (simp only [List.length_cons, List.length_nil, Nat.reduceAdd, Nat.reduceLT]; done) | fail) only [r268_86, r268_87, r268_90, r268_91, r268_94, r268_96, r268_100, r268_101, r268_102, r268_103, r268_106, r268_108, r268_109, r268_111, r268_112, r268_113, r268_114, r268_116, r268_120, r268_123, r268_125, r268_126, r268_128, r268_129, r268_130, r268_131, r268_133, r268_137, r268_140, r268_141 (x := 0) (Or.inl rfl), r268_141 (x := 1) (Or.inr rfl), r268_141 (b2i_or _), r268_142, r268_145, mh_o h, gm_71, gL, hm_71 h, lu_at, ev, eb, q268_97 ka, lg_cmp_le, cl, y, sb, q268_117 m_isIn, q268_134 m_isIn, b2i_eq0, ni, nj, yi, yj, WPo_some, List.getElem?_cons_succ, List.getElem?_cons_zero, kil_n, kil_i, kil_a, kil_u, kil_l, Option.toList_some, Option.toList_none, List.cons_append, List.nil_append, List.set_cons_succ, List.set_cons_zero, addm1, Nat.reduceAdd, List.length_cons, List.length_nil, Nat.reduceLT, nI_clamp, nI_toInt, nI_leL, nI_Lle, nI_ltL, nI_Llt, nI_eqL, nI_Leq, nI_leE, nI_ltE, nI_eqE, nI_eqM, nI_add, nI_addL, nI_Ladd, nI_mulL, nI_Lmul, pk_mul, pk_sub, nI_subL, nI_Lsub, i2l_nI, Int.toNat_natCast, Nat.not_lt_zero, Nat.zero_le, ifT, ifF, not_true_eq_false, not_false_eq_true, if_true, if_false, or_self, and_self, true_and, and_true, or_true, true_or, false_or, or_false, false_and, and_false]
            exact w
        · obtain ⟨r, w, hr⟩ := next (fun z => yi z.1)
          refine ⟨r, ?_, hr⟩
          rw [r268_84]
          simp (disch := first | assumption | omega | decide | (simp only [List.length_cons, List.length_nil, Nat.reduceAdd, Nat.reduceLT]; done) | fail) only [r268_86, r268_87, r268_90, r268_91, r268_94, r268_96, r268_100, r268_101, r268_102, r268_103, r268_106, r268_108, r268_109, r268_111, r268_112, r268_113, r268_114, r268_116, r268_120, r268_142, r268_145, mh_o h, gm_71, gL, hm_71 h, lu_at, ev, eb, q268_97 ka, lg_cmp_le, cl, y, sb, q268_117 m_isIn, b2i_eq0, ni, yi, WPo_some, List.getElem?_cons_succ, List.getElem?_cons_zero, kil_n, kil_i, kil_a, kil_u, kil_l, Option.toList_some, Option.toList_none, List.cons_append, List.nil_append, List.set_cons_succ, List.set_cons_zero, addm1, Nat.reduceAdd, List.length_cons, List.length_nil, Nat.reduceLT, nI_clamp, nI_toInt, nI_leL, nI_Lle, nI_ltL, nI_Llt, nI_eqL, nI_Leq, nI_leE, nI_ltE, nI_eqE, nI_eqM, nI_add, nI_addL, nI_Ladd, nI_mulL, nI_Lmul, pk_mul, pk_sub, nI_subL, nI_Lsub, i2l_nI, Int.toNat_natCast, Nat.not_lt_zero, Nat.zero_le, ifT, ifF, not_true_eq_false, not_false_eq_true, if_true, if_false, or_self, and_self, true_and, and_true, or_true, true_or, false_or, or_false, false_and, and_false]
          exact w
  let Q : Option Value → aHp → Prop := fun r1 x => ∃ r, r1 = some (.int r) ∧ x = mh E ah m ma v ai (lu al 71 L) ∧ ((r = 1 ∧ ¬ Rgh n k b (df k W) (some i) (some j)) ∨ (r = 0 ∧ Rgh n k b (df k W) (some i) (some j)))
  have main := l_cp268 (E := E) (c := c + 1) (v := v) (ai := ai) (al := al) (k := k) (b := b) h hn (N0 := al 71) (x4 := nI i) (x5 := nI j) (Q := Q) (by
    have l := l_do268 (E := E) (c := c + 1) (v := v) (ai := ai) (al := al) (b := b) h hn hkn (x4 := nI i) (x5 := nI j) (Q := Q) k 1 (ovr (al 71) 0 n (al 70)) none (by omega) (by omega) (fun l5 => by
      obtain ⟨r, w, hr⟩ := loop (n - k) 0 l5 (by omega) (fun q hq => absurd hq (by omega))
      rw [Nat.zero_add] at w
      have w' := WP.mono w (Q' := Q) (by
        rintro r1 x ⟨e1, e2⟩
        exact ⟨r, e1, e2, hr⟩)
      simp (disch := first | assumption | omega | decide | (simp only [List.length_cons, List.length_nil, Nat.reduceAdd, Nat.reduceLT]; done) | fail) only [r268_81, r268_82, WPo_some, List.getElem?_cons_succ, List.getElem?_cons_zero, kil_n, kil_i, kil_a, kil_u, kil_l, Option.toList_some, Option.toList_none, List.cons_append, List.nil_append, List.set_cons_succ, List.set_cons_zero, addm1, Nat.reduceAdd, List.length_cons, List.length_nil, Nat.reduceLT, nI_clamp, nI_toInt, nI_leL, nI_Lle, nI_ltL, nI_Llt, nI_eqL, nI_Leq, nI_leE, nI_ltE, nI_eqE, nI_eqM, nI_add, nI_addL, nI_Ladd, nI_mulL, nI_Lmul, pk_mul, pk_sub, nI_subL, nI_Lsub, i2l_nI, Int.toNat_natCast, Nat.not_lt_zero, Nat.zero_le, ifT, ifF, not_true_eq_false, not_false_eq_true, if_true, if_false, or_self, and_self, true_and, and_true, or_true, true_or, false_or, or_false, false_and, and_false]
      exact w')
    simp (disch := first | assumption | omega | decide | (simp only [List.length_cons, List.length_nil, Nat.reduceAdd, Nat.reduceLT]; done) | fail) only [r268_29, r268_30, WPo_some, List.getElem?_cons_succ, List.getElem?_cons_zero, kil_n, kil_i, kil_a, kil_u, kil_l, Option.toList_some, Option.toList_none, List.cons_append, List.nil_append, List.set_cons_succ, List.set_cons_zero, addm1, Nat.reduceAdd, List.length_cons, List.length_nil, Nat.reduceLT, nI_clamp, nI_toInt, nI_leL, nI_Lle, nI_ltL, nI_Llt, nI_eqL, nI_Leq, nI_leE, nI_ltE, nI_eqE, nI_eqM, nI_add, nI_addL, nI_Ladd, nI_mulL, nI_Lmul, pk_mul, pk_sub, nI_subL, nI_Lsub, i2l_nI, Int.toNat_natCast, Nat.not_lt_zero, Nat.zero_le, ifT, ifF, not_true_eq_false, not_false_eq_true, if_true, if_false, or_self, and_self, true_and, and_true, or_true, true_or, false_or, or_false, false_and, and_false]
    exact l) n 0 (by omega)
  rw [ovr_0, lu_self] at main
  obtain ⟨r1, x1, ⟨r, e1, e2, e3⟩, w⟩ := WP.ex main
  subst e1 e2
  refine ⟨r, L, e268 ?_, e3⟩
  simp (disch := first | assumption | omega | decide | (simp only [List.length_cons, List.length_nil, Nat.reduceAdd, Nat.reduceLT]; done) | fail) only [r268_0, r268_1, WPo_some, List.getElem?_cons_succ, List.getElem?_cons_zero, kil_n, kil_i, kil_a, kil_u, kil_l, Option.toList_some, Option.toList_none, List.cons_append, List.nil_append, List.set_cons_succ, List.set_cons_zero, addm1, Nat.reduceAdd, List.length_cons, List.length_nil, Nat.reduceLT]
  exact w
end MSM

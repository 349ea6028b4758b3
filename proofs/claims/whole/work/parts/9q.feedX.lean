/-! The tape, both sides -/
theorem su_c {S : Nat → aE} {k j : Nat} {a b x : aE} (h : ¬ j = k) : su (su (su S k a) j b) k x = su (su S k x) j b := by
  funext q
  unfold su
  by_cases h1 : q = k
  · subst h1
    have h' : ¬ q = j := fun z => h z.symm
    simp [h']
  · by_cases h2 : q = j
    · subst h2
      simp [h1]
    · simp [h1, h2]
noncomputable def tb (x s : Int32) : Int32 := vp_nar .byte (x >>> (s &&& 31)).toInt8.toInt32
noncomputable def tp4 (T : Nat → Int32) (n : Nat) (x : Int32) : Nat → Int32 := upd (upd (upd (upd T n (tb x 24)) (n + 1) (tb x 16)) (n + 2) (tb x 8)) (n + 3) (tb x 0)
section FDX
variable {E : aEnv} {c : Nat} {ah : aHp} {A : Nat → Nat} {S : Nat → aE} {tx sp : Nat} {hT eC st : Int32}
theorem c_tape (hO : XO E ah A) {n : Nat} (hX : S 0 = xO A tx sp hT eC (nI n) st) {T : Nat → Int32} (hT2 : S 13 = .inl (2, 500, .inl T)) (hn : n + 4 ≤ 500) {x : Int32} : EV E c 194 [.ref (A 0), .int x] (oh E ah A S) none (oh E ah A (su (su S 13 (.inl (2, 500, .inl (tp4 T n x)))) 0 (xO A tx sp hT eC (nI (n + 4)) st))) := by
  refine e194 ?_
  have hX' := hX
  unfold xO at hX' ⊢
  have q1 : (24 : Int32) + -8 = 16 := by decide
  have q2 : (16 : Int32) + -8 = 8 := by decide
  have q3 : (8 : Int32) + -8 = 0 := by decide
  have q4 : (0 : Int32) + -8 = -8 := by decide
  simp (disch := first | assumption | omega | decide | (simp only [List.length_cons, List.length_nil, Nat.reduceAdd, Nat.reduceLT]; done) | fail) only [r194_0, r194_2, r194_3, r194_4, r194_7, r194_8, r194_11, r194_14, r194_17, r194_18, r194_21, r194_22, r194_25, r194_26, r194_27, r194_28, r194_29, r194_30, r194_31, r194_31i, r194_32, r194_35, r194_36, r194_37, r194_40, r194_43, r194_46, hx_0 hO, hx_13 hO, hX', hT2, sx_13 hO, sx_0 hO, su_at, su_ne, su_c, su_su, pB, pf_10140, q1, q2, q3, q4, oGF_is, WPo_some, List.getElem?_cons_succ, List.getElem?_cons_zero, kil_n, kil_i, kil_a, kil_u, kil_l, Option.toList_some, Option.toList_none, List.cons_append, List.nil_append, List.set_cons_succ, List.set_cons_zero, addm1, Nat.reduceAdd, List.length_cons, List.length_nil, Nat.reduceLT, nI_clamp, nI_toInt, nI_leL, nI_Lle, nI_ltL, nI_Llt, nI_eqL, nI_Leq, nI_leE, nI_ltE, nI_eqE, nI_eqM, nI_add, nI_addL, nI_Ladd, nI_mulL, nI_Lmul, pk_mul, pk_sub, nI_subL, nI_Lsub, i2l_nI, Int.toNat_natCast, Nat.not_lt_zero, Nat.zero_le, ifT, ifF, not_true_eq_false, not_false_eq_true, if_true, if_false, or_self, and_self, true_and, and_true, or_true, true_or, false_or, or_false, false_and, and_false, show ¬ (24 : Int32) < 0 by decide, show ¬ (16 : Int32) < 0 by decide, show ¬ (8 : Int32) < 0 by decide, show ¬ (0 : Int32) < 0 by decide, show (-8 : Int32) < 0 by decide]
  exact rfl
noncomputable def tp20 (T : Nat → Int32) (n : Nat) (a b c d e : Int32) : Nat → Int32 := tp4 (tp4 (tp4 (tp4 (tp4 T n a) (n + 4) b) (n + 8) c) (n + 12) d) (n + 16) e
theorem x_feed_no (hO : XO E ah A) {n : Nat} (hX : S 0 = xO A tx sp hT eC (nI n) st) (hn : 480 < n) (hn2 : n ≤ 500) {x1 x2 x3 x4 x5 : Int32} : EV E (c + 1) 162 [.ref (A 0), .int x1, .int x2, .int x3, .int x4, .int x5] (oh E ah A S) (some (.int (-1))) (oh E ah A S) := by
  refine e162 ?_
  have hX' := hX
  unfold xO at hX'
  simp (disch := first | assumption | omega | decide | (simp only [List.length_cons, List.length_nil, Nat.reduceAdd, Nat.reduceLT]; done) | fail) only [r162_0, r162_1, r162_4, r162_6, r162_7, r162_10, r162_13, r162_14, hx_0 hO, hX', oGF_is, WPo_some, List.getElem?_cons_succ, List.getElem?_cons_zero, kil_n, kil_i, kil_a, kil_u, kil_l, Option.toList_some, Option.toList_none, List.cons_append, List.nil_append, List.set_cons_succ, List.set_cons_zero, addm1, Nat.reduceAdd, List.length_cons, List.length_nil, Nat.reduceLT, nI_clamp, nI_toInt, nI_leL, nI_Lle, nI_ltL, nI_Llt, nI_eqL, nI_Leq, nI_leE, nI_ltE, nI_eqE, nI_eqM, nI_add, nI_addL, nI_Ladd, nI_mulL, nI_Lmul, pk_mul, pk_sub, nI_subL, nI_Lsub, i2l_nI, Int.toNat_natCast, Nat.not_lt_zero, Nat.zero_le, ifT, ifF, not_true_eq_false, not_false_eq_true, if_true, if_false, or_self, and_self, true_and, and_true, or_true, true_or, false_or, or_false, false_and, and_false]
theorem x_feed_ok (hO : XO E ah A) {n : Nat} (hX : S 0 = xO A tx sp hT eC (nI n) st) {T : Nat → Int32} (hT2 : S 13 = .inl (2, 500, .inl T)) (hn : n ≤ 480) {x1 x2 x3 x4 x5 : Int32} : EV E (c + 1) 162 [.ref (A 0), .int x1, .int x2, .int x3, .int x4, .int x5] (oh E ah A S) (some (.int (nI (n + 20)))) (oh E ah A (su (su S 13 (.inl (2, 500, .inl (tp20 T n x1 x2 x3 x4 x5)))) 0 (xO A tx sp hT eC (nI (n + 20)) st))) := by
  refine e162 ?_
  have hX' := hX
  have hc := hO.c0 hX
  have ci : ∀ m T', oCI (hg E (oh E ah A (su (su S 13 T') 0 (xO A tx sp hT eC (nI m) st))) (A 0)) = 10 := fun m T' => hO.c0 (su_at)
  have k1 := c_tape (c := c) hO hX hT2 (show n + 4 ≤ 500 by omega) (x := x1)
  have k := fun (m : Nat) (T' : Nat → Int32) (x : Int32) (hm : m + 4 ≤ 500) => c_tape (c := c) (S := su (su S 13 (.inl (2, 500, .inl T'))) 0 (xO A tx sp hT eC (nI m) st)) hO (n := m) su_at (T := T') (by rw [su_ne (by decide), su_at]) hm (x := x)
  have k2 := k (n + 4) (tp4 T n x1) x2 (by omega)
  have k3 := k (n + 8) (tp4 (tp4 T n x1) (n + 4) x2) x3 (by omega)
  have k4 := k (n + 12) (tp4 (tp4 (tp4 T n x1) (n + 4) x2) (n + 8) x3) x4 (by omega)
  have k5 := k (n + 16) (tp4 (tp4 (tp4 (tp4 T n x1) (n + 4) x2) (n + 8) x3) (n + 12) x4) x5 (by omega)
  rw [su_c (by decide), su_c (by decide)] at k2 k3 k4 k5
  have ho : ∀ m T', hg E (oh E ah A (su (su S 13 T') 0 (xO A tx sp hT eC (nI m) st))) (A 0) = some (xO A tx sp hT eC (nI m) st) := fun m T' => by rw [hx_0 hO, su_at]
  unfold xO at hX'
  simp (disch := first | assumption | omega | decide | (simp only [List.length_cons, List.length_nil, Nat.reduceAdd, Nat.reduceLT]; done) | fail) only [r162_0, r162_1, r162_4, r162_6, r162_7, r162_10, r162_13, r162_14, r162_15, r162_16, r162_20, r162_21, r162_25, r162_26, r162_30, r162_31, r162_36, r162_37, r162_42, r162_43, r162_46, hx_0 hO, hX', q162_17 k1 hc, q162_22 k2 (ci _ _), q162_27 k3 (ci _ _), q162_33 k4 (ci _ _), q162_39 k5 (ci _ _), ho, oGF_is, WPo_some, List.getElem?_cons_succ, List.getElem?_cons_zero, kil_n, kil_i, kil_a, kil_u, kil_l, Option.toList_some, Option.toList_none, List.cons_append, List.nil_append, List.set_cons_succ, List.set_cons_zero, addm1, Nat.reduceAdd, List.length_cons, List.length_nil, Nat.reduceLT, nI_clamp, nI_toInt, nI_leL, nI_Lle, nI_ltL, nI_Llt, nI_eqL, nI_Leq, nI_leE, nI_ltE, nI_eqE, nI_eqM, nI_add, nI_addL, nI_Ladd, nI_mulL, nI_Lmul, pk_mul, pk_sub, nI_subL, nI_Lsub, i2l_nI, Int.toNat_natCast, Nat.not_lt_zero, Nat.zero_le, ifT, ifF, not_true_eq_false, not_false_eq_true, if_true, if_false, or_self, and_self, true_and, and_true, or_true, true_or, false_or, or_false, false_and, and_false]
  rw [su_at]
  simp only [xO, oGF_is, WPo_some, List.getElem?_cons_succ, List.getElem?_cons_zero, kil_n, kil_i, kil_a, kil_u, kil_l, Option.toList_some, Option.toList_none, List.cons_append, List.nil_append, List.set_cons_succ, List.set_cons_zero, addm1, Nat.reduceAdd, List.length_cons, List.length_nil, Nat.reduceLT, r162_46, not_true_eq_false, not_false_eq_true, if_true, if_false, or_self, and_self, true_and, and_true, or_true, true_or, false_or, or_false, false_and, and_false]
  exact rfl
theorem x_status (hO : XO E ah A) {tL : Int32} (hX : S 0 = xO A tx sp hT eC tL st) : EV E c 145 [.ref (A 0)] (oh E ah A S) (some (.int st)) (oh E ah A S) := by
  refine e145 ?_
  have hX' := hX
  unfold xO at hX'
  simp (disch := first | assumption | omega | decide | (simp only [List.length_cons, List.length_nil, Nat.reduceAdd, Nat.reduceLT]; done) | fail) only [r145_0, r145_1, r145_4, hx_0 hO, hX', oGF_is, WPo_some, List.getElem?_cons_succ, List.getElem?_cons_zero, kil_n, kil_i, kil_a, kil_u, kil_l, Option.toList_some, Option.toList_none, List.cons_append, List.nil_append, List.set_cons_succ, List.set_cons_zero, addm1, Nat.reduceAdd, List.length_cons, List.length_nil, Nat.reduceLT, not_true_eq_false, not_false_eq_true, if_true, if_false, or_self, and_self, true_and, and_true, or_true, true_or, false_or, or_false, false_and, and_false]
end FDX
section FDM
variable {E : aEnv} {c m : Nat} {ah : aHp} {ma : Nat → Nat} {v : Nat → Value} {ai : Nat → Nat → Int32} {al : Nat → Nat → Int64}
theorem m_status (h : MO E ah m ma) {x : Int32} (hv : v 0 = .int x) : EV E c 196 [.ref m] (mh E ah m ma v ai al) (some (.int x)) (mh E ah m ma (vu v 1 (.int 0)) ai al) := by
  refine e196 ?_
  have hv' : vu v 1 (.int 0) 0 = .int x := hv
  simp (disch := first | assumption | omega | decide | (simp only [List.length_cons, List.length_nil, Nat.reduceAdd, Nat.reduceLT]; done) | fail) only [r196_0, r196_1, r196_2, r196_5, r196_6, r196_9, mh_o h, mh_put h, pm_1, gm_0, hv', WPo_some, List.getElem?_cons_succ, List.getElem?_cons_zero, kil_n, kil_i, kil_a, kil_u, kil_l, Option.toList_some, Option.toList_none, List.cons_append, List.nil_append, List.set_cons_succ, List.set_cons_zero, addm1, Nat.reduceAdd, List.length_cons, List.length_nil, Nat.reduceLT, not_true_eq_false, not_false_eq_true, if_true, if_false, or_self, and_self, true_and, and_true, or_true, true_or, false_or, or_false, false_and, and_false]
theorem m_lay (h : MO E ah m ma) {n : Nat} (hv : v 29 = .int (nI n)) (hn : n + 4 ≤ 500) {x : Int32} : EV E c 251 [.ref m, .int x] (mh E ah m ma v ai al) none (mh E ah m ma (vu v 29 (.int (nI (n + 4)))) (iu ai 28 (tp4 (ai 28) n x)) al) := by
  refine e251 ?_
  have q1 : (8 : Int32) * 3 = 24 := by decide
  have q2 : (8 : Int32) * 2 = 16 := by decide
  have q3 : (8 : Int32) * 1 = 8 := by decide
  have q4 : (8 : Int32) * 0 = 0 := by decide
  have p1 : (3 : Int32) - 1 = 2 := by decide
  have p2 : (2 : Int32) - 1 = 1 := by decide
  have p3 : (1 : Int32) - 1 = 0 := by decide
  have p4 : (0 : Int32) - 1 = -1 := by decide
  simp (disch := first | assumption | omega | decide | (simp only [List.length_cons, List.length_nil, Nat.reduceAdd, Nat.reduceLT]; done) | fail) only [r251_0, r251_1, r251_2, r251_3, r251_6, r251_7, r251_10, r251_11, r251_14, r251_15, r251_17, r251_18, r251_19, r251_20, r251_21, r251_22, r251_23, r251_23i, r251_24, r251_27, r251_28, r251_29, r251_32, r251_35, r251_38, mh_o h, mh_put h, gm_28, gm_29, pm_29, hv, vu_at, vu_vu, pB, hm_28 h, sm_28 h, iu_at, iu_iu, q1, q2, q3, q4, p1, p2, p3, p4, WPo_some, List.getElem?_cons_succ, List.getElem?_cons_zero, kil_n, kil_i, kil_a, kil_u, kil_l, Option.toList_some, Option.toList_none, List.cons_append, List.nil_append, List.set_cons_succ, List.set_cons_zero, addm1, Nat.reduceAdd, List.length_cons, List.length_nil, Nat.reduceLT, nI_clamp, nI_toInt, nI_leL, nI_Lle, nI_ltL, nI_Llt, nI_eqL, nI_Leq, nI_leE, nI_ltE, nI_eqE, nI_eqM, nI_add, nI_addL, nI_Ladd, nI_mulL, nI_Lmul, pk_mul, pk_sub, nI_subL, nI_Lsub, i2l_nI, Int.toNat_natCast, Nat.not_lt_zero, Nat.zero_le, ifT, ifF, not_true_eq_false, not_false_eq_true, if_true, if_false, or_self, and_self, true_and, and_true, or_true, true_or, false_or, or_false, false_and, and_false, show ¬ (3 : Int32) < 0 by decide, show ¬ (2 : Int32) < 0 by decide, show ¬ (1 : Int32) < 0 by decide, show ¬ (0 : Int32) < 0 by decide, show (-1 : Int32) < 0 by decide]
  exact rfl
theorem m_feed_no (h : MO E ah m ma) {n : Nat} (hv : v 29 = .int (nI n)) (hn : 480 < n) (hn2 : n ≤ 500) {x1 x2 x3 x4 x5 : Int32} : EV E (c + 1) 250 [.ref m, .int x1, .int x2, .int x3, .int x4, .int x5] (mh E ah m ma v ai al) (some (.int (-1))) (mh E ah m ma (vu v 1 (.int 0)) ai al) := by
  refine e250 ?_
  have hv' : vu v 1 (.int 0) 29 = .int (nI n) := hv
  simp (disch := first | assumption | omega | decide | (simp only [List.length_cons, List.length_nil, Nat.reduceAdd, Nat.reduceLT]; done) | fail) only [r250_0, r250_1, r250_2, r250_5, r250_6, r250_9, r250_11, r250_12, r250_15, r250_18, r250_19, mh_o h, mh_put h, pm_1, gm_29, hv', WPo_some, List.getElem?_cons_succ, List.getElem?_cons_zero, kil_n, kil_i, kil_a, kil_u, kil_l, Option.toList_some, Option.toList_none, List.cons_append, List.nil_append, List.set_cons_succ, List.set_cons_zero, addm1, Nat.reduceAdd, List.length_cons, List.length_nil, Nat.reduceLT, nI_clamp, nI_toInt, nI_leL, nI_Lle, nI_ltL, nI_Llt, nI_eqL, nI_Leq, nI_leE, nI_ltE, nI_eqE, nI_eqM, nI_add, nI_addL, nI_Ladd, nI_mulL, nI_Lmul, pk_mul, pk_sub, nI_subL, nI_Lsub, i2l_nI, Int.toNat_natCast, Nat.not_lt_zero, Nat.zero_le, ifT, ifF, not_true_eq_false, not_false_eq_true, if_true, if_false, or_self, and_self, true_and, and_true, or_true, true_or, false_or, or_false, false_and, and_false]
theorem m_feed_ok (h : MO E ah m ma) {n : Nat} (hv : v 29 = .int (nI n)) (hn : n ≤ 480) {x1 x2 x3 x4 x5 : Int32} : EV E (c + 1) 250 [.ref m, .int x1, .int x2, .int x3, .int x4, .int x5] (mh E ah m ma v ai al) (some (.int (nI (n + 20)))) (mh E ah m ma (vu (vu v 1 (.int 0)) 29 (.int (nI (n + 20)))) (iu ai 28 (tp20 (ai 28) n x1 x2 x3 x4 x5)) al) := by
  refine e250 ?_
  have hv' : vu v 1 (.int 0) 29 = .int (nI n) := hv
  have k1 := m_lay (c := c) (v := vu v 1 (.int 0)) (ai := ai) (al := al) h hv' (show n + 4 ≤ 500 by omega) (x := x1)
  have k := fun (q : Nat) (T' : Nat → Int32) (x : Int32) (hm : q + 4 ≤ 500) => m_lay (c := c) (v := vu (vu v 1 (.int 0)) 29 (.int (nI q))) (ai := iu ai 28 T') (al := al) h (n := q) vu_at hm (x := x)
  simp only [vu_vu, iu_at, iu_iu] at k
  have k2 := k (n + 4) (tp4 (ai 28) n x1) x2 (by omega)
  have k3 := k (n + 8) (tp4 (tp4 (ai 28) n x1) (n + 4) x2) x3 (by omega)
  have k4 := k (n + 12) (tp4 (tp4 (tp4 (ai 28) n x1) (n + 4) x2) (n + 8) x3) x4 (by omega)
  have k5 := k (n + 16) (tp4 (tp4 (tp4 (tp4 (ai 28) n x1) (n + 4) x2) (n + 8) x3) (n + 12) x4) x5 (by omega)
  simp (disch := first | assumption | omega | decide | (simp only [List.length_cons, List.length_nil, Nat.reduceAdd, Nat.reduceLT]; done) | fail) only [r250_0, r250_1, r250_2, r250_5, r250_6, r250_9, r250_11, r250_12, r250_15, r250_18, r250_19, r250_20, r250_21, r250_25, r250_26, r250_30, r250_31, r250_35, r250_36, r250_41, r250_42, r250_47, r250_48, r250_51, mh_o h, mh_put h, pm_1, gm_29, hv', vu_at, q250_22 k1 h.ci, q250_27 k2 h.ci, q250_32 k3 h.ci, q250_38 k4 h.ci, q250_44 k5 h.ci, WPo_some, List.getElem?_cons_succ, List.getElem?_cons_zero, kil_n, kil_i, kil_a, kil_u, kil_l, Option.toList_some, Option.toList_none, List.cons_append, List.nil_append, List.set_cons_succ, List.set_cons_zero, addm1, Nat.reduceAdd, List.length_cons, List.length_nil, Nat.reduceLT, nI_clamp, nI_toInt, nI_leL, nI_Lle, nI_ltL, nI_Llt, nI_eqL, nI_Leq, nI_leE, nI_ltE, nI_eqE, nI_eqM, nI_add, nI_addL, nI_Ladd, nI_mulL, nI_Lmul, pk_mul, pk_sub, nI_subL, nI_Lsub, i2l_nI, Int.toNat_natCast, Nat.not_lt_zero, Nat.zero_le, ifT, ifF, not_true_eq_false, not_false_eq_true, if_true, if_false, or_self, and_self, true_and, and_true, or_true, true_or, false_or, or_false, false_and, and_false]
  exact rfl
end FDM

/-! The class' reader: numbers and words -/
section CRN
variable {E : aEnv} {c : Nat} {ah : aHp} {A : Nat → Nat} {S : Nat → aE} {T : Nat → Int32} {n : Nat}
theorem lN_back {v : Int64} (h : 0 ≤ v.toInt) : v = lN v.toInt.toNat := by
  rw [lN_iL, Int.toNat_of_nonneg h]
  exact iL_of v
theorem c_readNumber (hO : XO E ah A) (h13 : S 13 = .inl (2, 500, .inl T)) (hn : n ≤ 500) {p : Nat} (hp : p ≤ n) {lo hi : Nat} (hlo : lo ≤ 40) (hhi : hi ≤ 40) : EV E (c + 3) 5 [.ref (A 14), .int (nI lo), .int (nI hi)] (oh E ah A (su S 14 (rP A T n (gon p)))) (some (.int (nI (rdN T n lo hi p).1))) (oh E ah A (su S 14 (rP A T n (rdN T n lo hi p).2))) := by
  refine e5 ?_
  have h1 := nxT_le (T := T) (n := n) (p := p)
  have k1 := c_nextP (E := E) (c := c) hO h13 hn (fa := 0) (fp := -1) hp
  have k2 := c_refuse (E := E) (c := c + 2) (S := S) (T := T) (n := n) hO (p := p) (k := 2)
  have k4 := c_refuse (E := E) (c := c + 2) (S := S) (T := T) (n := n) hO (p := p) (k := 4)
  have ci := rP_ci (E := E) (S := S) (T := T) (n := n) (s := gon p) hO
  have e2 : nI 2 = (2 : Int32) := rfl
  have e4 : nI 4 = (4 : Int32) := rfl
  have g3 : ((nxE T n p, 0, -1) : aPs) = gon (nxE T n p) := rfl
  have g4 : ((p, 0, -1) : aPs) = gon p := rfl
  rw [g4, g3] at k1
  rw [e2] at k2
  rw [e4] at k4
  have g0 : hg E (oh E ah A (su S 14 (rP A T n (gon p)))) (A 14) = some (.inr (0, [.ref (A 13), .int (nI n), .int (nI (nxE T n p)), .int (nI (nxT T n p)), .int (nI (nxS T n p)), .long (nxV T n p), .int (nI 0), .int (-1)])) := by rw [hx_14 hO, su_at]; rfl
  unfold rdN
  by_cases h2 : nxT T n p = 2
  · rw [if_pos h2]
    by_cases h3 : lN lo ≤ nxV T n p ∧ nxV T n p ≤ lN hi
    · rw [if_pos h3]
      have h3' := h3
      simp only [i64_le, lN_toInt63 (show lo < 2 ^ 63 by omega), lN_toInt63 (show hi < 2 ^ 63 by omega)] at h3'
      have ev := lN_back (v := nxV T n p) (by omega)
      have f1 : ¬ nxV T n p < lN lo := by simp only [i64_lt, lN_toInt63 (show lo < 2 ^ 63 by omega)]; omega
      have e5 : (nxV T n p).toInt32 = nI (nxV T n p).toInt.toNat := by
        have := lN_i (n := (nxV T n p).toInt.toNat)
        rw [← ev] at this
        exact this
      simp (disch := first | assumption | omega | decide | (simp only [List.length_cons, List.length_nil, Nat.reduceAdd, Nat.reduceLT]; done) | fail) only [r5_0, r5_1, r5_4, r5_5, r5_6, r5_9, r5_10, r5_13, r5_14, r5_18, r5_21, r5_22, r5_23, r5_24, r5_25, r5_28, r5_29, r5_30, r5_31, r5_32, r5_35, r5_36, r5_40, r5_43, r5_47, r5_48, r5_49, r5_50, r5_51, g0, q5_44 k1 ci, h2, h3.2, f1, e5, nI_l, lg_cmp_lt, lg_cmp_le, oGF_is, WPo_some, List.getElem?_cons_succ, List.getElem?_cons_zero, kil_n, kil_i, kil_a, kil_u, kil_l, Option.toList_some, Option.toList_none, List.cons_append, List.nil_append, List.set_cons_succ, List.set_cons_zero, addm1, Nat.reduceAdd, List.length_cons, List.length_nil, Nat.reduceLT, nI_clamp, nI_toInt, nI_leL, nI_Lle, nI_ltL, nI_Llt, nI_eqL, nI_Leq, nI_leE, nI_ltE, nI_eqE, nI_eqM, nI_add, nI_addL, nI_Ladd, nI_mulL, nI_Lmul, pk_mul, pk_sub, nI_subL, nI_Lsub, i2l_nI, Int.toNat_natCast, Nat.not_lt_zero, Nat.zero_le, ifT, ifF, not_true_eq_false, not_false_eq_true, if_true, if_false, or_self, and_self, true_and, and_true, or_true, true_or, false_or, or_false, false_and, and_false]
    · rw [if_neg h3]
      by_cases f1 : nxV T n p < lN lo
      · simp (disch := first | assumption | omega | decide | (simp only [List.length_cons, List.length_nil, Nat.reduceAdd, Nat.reduceLT]; done) | fail) only [r5_0, r5_1, r5_4, r5_5, r5_6, r5_9, r5_10, r5_13, r5_14, r5_18, r5_21, r5_22, r5_23, r5_24, r5_25, r5_28, r5_29, r5_30, r5_31, r5_32, r5_35, r5_36, r5_40, r5_43, r5_47, r5_48, r5_49, r5_50, r5_51, g0, q5_37 k4 ci, h2, f1, nI_l, lg_cmp_lt, lg_cmp_le, oGF_is, WPo_some, List.getElem?_cons_succ, List.getElem?_cons_zero, kil_n, kil_i, kil_a, kil_u, kil_l, Option.toList_some, Option.toList_none, List.cons_append, List.nil_append, List.set_cons_succ, List.set_cons_zero, addm1, Nat.reduceAdd, List.length_cons, List.length_nil, Nat.reduceLT, nI_clamp, nI_toInt, nI_leL, nI_Lle, nI_ltL, nI_Llt, nI_eqL, nI_Leq, nI_leE, nI_ltE, nI_eqE, nI_eqM, nI_add, nI_addL, nI_Ladd, nI_mulL, nI_Lmul, pk_mul, pk_sub, nI_subL, nI_Lsub, i2l_nI, Int.toNat_natCast, Nat.not_lt_zero, Nat.zero_le, ifT, ifF, not_true_eq_false, not_false_eq_true, if_true, if_false, or_self, and_self, true_and, and_true, or_true, true_or, false_or, or_false, false_and, and_false]
        exact rfl
      · have f2 : ¬ nxV T n p ≤ lN hi := fun z => h3 ⟨by simp only [i64_lt, i64_le] at f1 ⊢; omega, z⟩
        simp (disch := first | assumption | omega | decide | (simp only [List.length_cons, List.length_nil, Nat.reduceAdd, Nat.reduceLT]; done) | fail) only [r5_0, r5_1, r5_4, r5_5, r5_6, r5_9, r5_10, r5_13, r5_14, r5_18, r5_21, r5_22, r5_23, r5_24, r5_25, r5_28, r5_29, r5_30, r5_31, r5_32, r5_35, r5_36, r5_40, r5_43, r5_47, r5_48, r5_49, r5_50, r5_51, g0, q5_37 k4 ci, h2, f1, f2, nI_l, lg_cmp_lt, lg_cmp_le, oGF_is, WPo_some, List.getElem?_cons_succ, List.getElem?_cons_zero, kil_n, kil_i, kil_a, kil_u, kil_l, Option.toList_some, Option.toList_none, List.cons_append, List.nil_append, List.set_cons_succ, List.set_cons_zero, addm1, Nat.reduceAdd, List.length_cons, List.length_nil, Nat.reduceLT, nI_clamp, nI_toInt, nI_leL, nI_Lle, nI_ltL, nI_Llt, nI_eqL, nI_Leq, nI_leE, nI_ltE, nI_eqE, nI_eqM, nI_add, nI_addL, nI_Ladd, nI_mulL, nI_Lmul, pk_mul, pk_sub, nI_subL, nI_Lsub, i2l_nI, Int.toNat_natCast, Nat.not_lt_zero, Nat.zero_le, ifT, ifF, not_true_eq_false, not_false_eq_true, if_true, if_false, or_self, and_self, true_and, and_true, or_true, true_or, false_or, or_false, false_and, and_false]
        exact rfl
  · rw [if_neg h2]
    simp (disch := first | assumption | omega | decide | (simp only [List.length_cons, List.length_nil, Nat.reduceAdd, Nat.reduceLT]; done) | fail) only [r5_0, r5_1, r5_4, r5_5, r5_6, r5_9, r5_10, r5_13, r5_14, r5_18, r5_21, r5_22, r5_23, r5_24, r5_25, r5_28, r5_29, r5_30, r5_31, r5_32, r5_35, r5_36, r5_40, r5_43, r5_47, r5_48, r5_49, r5_50, r5_51, g0, q5_15 k2 ci, h2, oGF_is, WPo_some, List.getElem?_cons_succ, List.getElem?_cons_zero, kil_n, kil_i, kil_a, kil_u, kil_l, Option.toList_some, Option.toList_none, List.cons_append, List.nil_append, List.set_cons_succ, List.set_cons_zero, addm1, Nat.reduceAdd, List.length_cons, List.length_nil, Nat.reduceLT, nI_clamp, nI_toInt, nI_leL, nI_Lle, nI_ltL, nI_Llt, nI_eqL, nI_Leq, nI_leE, nI_ltE, nI_eqE, nI_eqM, nI_add, nI_addL, nI_Ladd, nI_mulL, nI_Lmul, pk_mul, pk_sub, nI_subL, nI_Lsub, i2l_nI, Int.toNat_natCast, Nat.not_lt_zero, Nat.zero_le, ifT, ifF, not_true_eq_false, not_false_eq_true, if_true, if_false, or_self, and_self, true_and, and_true, or_true, true_or, false_or, or_false, false_and, and_false]
    exact rfl
theorem c_readWhole (hO : XO E ah A) (h13 : S 13 = .inl (2, 500, .inl T)) (hn : n ≤ 500) {s : aPs} (hs : okP n s) : EV E (c + 4) 6 [.ref (A 14)] (oh E ah A (su S 14 (rP A T n s))) (some (.long (rdW T n s).1)) (oh E ah A (su S 14 (rP A T n (rdW T n s).2))) := by
  refine e6 ?_
  have hs0 := hs
  obtain ⟨p, fa, fp⟩ := s
  obtain ⟨o1, o2, o3⟩ := hs
  dsimp only at o1 o2 o3
  have h1 := nxT_le (T := T) (n := n) (p := p)
  have hE := nxE_le (T := T) o1
  have ci := rP_ci (E := E) (S := S) (T := T) (n := n) (s := (p, fa, fp)) hO
  have ci2 := rP_ci (E := E) (S := S) (T := T) (n := n) (s := gon (nxE T n p)) hO
  have g0 : hg E (oh E ah A (su S 14 (rP A T n (p, fa, fp)))) (A 14) = some (.inr (0, [.ref (A 13), .int (nI n), .int (nI (nxE T n p)), .int (nI (nxT T n p)), .int (nI (nxS T n p)), .long (nxV T n p), .int (nI fa), .int fp])) := by rw [hx_14 hO, su_at]; rfl
  have g1 : hg E (oh E ah A (su S 14 (rP A T n (gon (nxE T n p))))) (A 14) = some (.inr (0, [.ref (A 13), .int (nI n), .int (nI (nxE T n (nxE T n p))), .int (nI (nxT T n (nxE T n p))), .int (nI (nxS T n (nxE T n p))), .long (nxV T n (nxE T n p)), .int (nI 0), .int (-1)])) := by rw [hx_14 hO, su_at]; rfl
  have k3 := c_take (E := E) (c := c) hO h13 hn hs0 (due := 2) (by decide)
  have k4 := c_take (E := E) (c := c) hO h13 hn (ok_gon hE.2) (due := 2) (by decide)
  have e2 : nI 2 = (2 : Int32) := rfl
  rw [e2] at k3 k4
  have k1 := c_nextP (E := E) (c := c + 1) hO h13 hn (fa := fa) (fp := fp) o1
  unfold rdW rdB
  dsimp only
  by_cases z : fa = 0
  · have o3 := o3 z
    by_cases y : nxT T n p = 4
    · have k1' : EV E (c + 1 + 2) 12 [.ref (A 14)] (oh E ah A (su S 14 (rP A T n (p, fa, fp)))) none (oh E ah A (su S 14 (rP A T n (gon (nxE T n p))))) := by
        rw [z, o3] at k1 ⊢
        exact k1
      simp (disch := first | assumption | omega | decide | (simp only [List.length_cons, List.length_nil, Nat.reduceAdd, Nat.reduceLT]; done) | fail) only [r6_0, r6_1, r6_4, r6_7, r6_8, r6_11, r6_12, r6_15, r6_16, r6_19, r6_20, r6_21, r6_22, r6_25, r6_29, r6_30, r6_33, r6_34, r6_35, r6_39, r6_40, r6_43, r6_44, r6_45, r6_48, r6_49, g0, g1, q6_26 k1' ci, q6_36 k4 ci2, eq_true z, eq_true y, oGF_is, WPo_some, List.getElem?_cons_succ, List.getElem?_cons_zero, kil_n, kil_i, kil_a, kil_u, kil_l, Option.toList_some, Option.toList_none, List.cons_append, List.nil_append, List.set_cons_succ, List.set_cons_zero, addm1, Nat.reduceAdd, List.length_cons, List.length_nil, Nat.reduceLT, nI_clamp, nI_toInt, nI_leL, nI_Lle, nI_ltL, nI_Llt, nI_eqL, nI_Leq, nI_leE, nI_ltE, nI_eqE, nI_eqM, nI_add, nI_addL, nI_Ladd, nI_mulL, nI_Lmul, pk_mul, pk_sub, nI_subL, nI_Lsub, i2l_nI, Int.toNat_natCast, Nat.not_lt_zero, Nat.zero_le, ifT, ifF, not_true_eq_false, not_false_eq_true, if_true, if_false, or_self, and_self, true_and, and_true, or_true, true_or, false_or, or_false, false_and, and_false, decide_true, Bool.and_self, show ¬ (1 : Int32) = 0 by decide]
    · simp (disch := first | assumption | omega | decide | (simp only [List.length_cons, List.length_nil, Nat.reduceAdd, Nat.reduceLT]; done) | fail) only [r6_0, r6_1, r6_4, r6_7, r6_8, r6_11, r6_12, r6_15, r6_16, r6_19, r6_20, r6_21, r6_22, r6_25, r6_29, r6_30, r6_33, r6_34, r6_35, r6_39, r6_40, r6_43, r6_44, r6_45, r6_48, r6_49, g0, q6_36 k3 ci, eq_true z, y, oGF_is, WPo_some, List.getElem?_cons_succ, List.getElem?_cons_zero, kil_n, kil_i, kil_a, kil_u, kil_l, Option.toList_some, Option.toList_none, List.cons_append, List.nil_append, List.set_cons_succ, List.set_cons_zero, addm1, Nat.reduceAdd, List.length_cons, List.length_nil, Nat.reduceLT, nI_clamp, nI_toInt, nI_leL, nI_Lle, nI_ltL, nI_Llt, nI_eqL, nI_Leq, nI_leE, nI_ltE, nI_eqE, nI_eqM, nI_add, nI_addL, nI_Ladd, nI_mulL, nI_Lmul, pk_mul, pk_sub, nI_subL, nI_Lsub, i2l_nI, Int.toNat_natCast, Nat.not_lt_zero, Nat.zero_le, ifT, ifF, not_true_eq_false, not_false_eq_true, if_true, if_false, or_self, and_self, true_and, and_true, or_true, true_or, false_or, or_false, false_and, and_false, decide_true, decide_false, Bool.and_false, Bool.false_eq_true]
  · simp (disch := first | assumption | omega | decide | (simp only [List.length_cons, List.length_nil, Nat.reduceAdd, Nat.reduceLT]; done) | fail) only [r6_0, r6_1, r6_4, r6_7, r6_8, r6_11, r6_12, r6_15, r6_16, r6_19, r6_20, r6_21, r6_22, r6_25, r6_29, r6_30, r6_33, r6_34, r6_35, r6_39, r6_40, r6_43, r6_44, r6_45, r6_48, r6_49, g0, q6_36 k3 ci, z, oGF_is, WPo_some, List.getElem?_cons_succ, List.getElem?_cons_zero, kil_n, kil_i, kil_a, kil_u, kil_l, Option.toList_some, Option.toList_none, List.cons_append, List.nil_append, List.set_cons_succ, List.set_cons_zero, addm1, Nat.reduceAdd, List.length_cons, List.length_nil, Nat.reduceLT, nI_clamp, nI_toInt, nI_leL, nI_Lle, nI_ltL, nI_Llt, nI_eqL, nI_Leq, nI_leE, nI_ltE, nI_eqE, nI_eqM, nI_add, nI_addL, nI_Ladd, nI_mulL, nI_Lmul, pk_mul, pk_sub, nI_subL, nI_Lsub, i2l_nI, Int.toNat_natCast, Nat.not_lt_zero, Nat.zero_le, ifT, ifF, not_true_eq_false, not_false_eq_true, if_true, if_false, or_self, and_self, true_and, and_true, or_true, true_or, false_or, or_false, false_and, and_false, decide_false, Bool.false_and, Bool.false_eq_true]
/-! Words -/
theorem x11_18 {a0 a1 a2 : Option Value} {q : Nat} {d : Int32} {cs : List Int32} (hq : E.2.2.2 q = some cs) {Q : Option Value → aHp → Prop} : WP E (c + 6) 11 18 [a0, a1, a2] [.ref q, .int d] ah Q = WP E (c + 6) 11 21 [a0, a1, a2] [.int (Int32.ofNat cs.length), .int d] ah Q := wp_xt (q := ([.int (Int32.ofNat cs.length), .int d], ah)) i11_18 rfl rfl (by simp [xtA, gX, hq]) (Nat.le_add_left 6 c) (Nat.le_of_ble_eq_true rfl)
theorem x11_30 {a0 a1 a2 : Option Value} {q : Nat} {d : Int32} {cs : List Int32} (hq : E.2.2.2 q = some cs) {Q : Option Value → aHp → Prop} : WP E (c + 6) 11 30 [a0, a1, a2] [.ref q, .int d] ah Q = WP E (c + 6) 11 33 [a0, a1, a2] [.int (Int32.ofNat cs.length), .int d] ah Q := wp_xt (q := ([.int (Int32.ofNat cs.length), .int d], ah)) i11_30 rfl rfl (by simp [xtA, gX, hq]) (Nat.le_add_left 6 c) (Nat.le_of_ble_eq_true rfl)
theorem x11_48 {a0 a1 a2 : Option Value} {q i : Nat} {d : Int32} {cs : List Int32} (hq : E.2.2.2 q = some cs) (hi : i < cs.length) (hi2 : i < 2 ^ 31) {Q : Option Value → aHp → Prop} : WP E (c + 6) 11 48 [a0, a1, a2] [.int (nI i), .ref q, .int d] ah Q = WP E (c + 6) 11 51 [a0, a1, a2] [.int (cs.getD i 0), .int d] ah Q := wp_xt (q := ([.int (cs.getD i 0), .int d], ah)) i11_48 rfl rfl (by
  have e1 := nI_clamp hi2
  have e2 := nI_pos hi2
  simp only [xtA, gX, hq, e1, e2, false_or, if_true, show ¬ cs.length ≤ i by omega, if_false, Option.map_some]) (Nat.le_add_left 6 c) (Nat.le_of_ble_eq_true rfl)
theorem dropE {w : List Nat} {t : List Nat} {x i : Nat} (h : w.drop i = x :: t) : i < w.length ∧ (w.map nI).getD i 0 = nI x ∧ w.drop (i + 1) = t ∧ x ∈ w := by
  have h1 : i < w.length := by
    have := congrArg List.length h
    rw [List.length_drop, List.length_cons] at this
    omega
  have h2 : w[i]? = some x := by
    have := congrArg (fun l => l[0]?) h
    simpa using this
  refine ⟨h1, ?_, ?_, List.mem_of_getElem? h2⟩
  · rw [List.getD_eq_getElem?_getD, List.getElem?_map, h2]
    rfl
  · rw [← List.drop_drop, h]
    rfl
theorem l_wi (hO : XO E ah A) (h13 : S 13 = .inl (2, 500, .inl T)) (hn : n ≤ 500) {a tk st fa : Nat} {vl : Int64} {fp : Int32} {q : Nat} {w : List Nat} (hq : E.2.2.2 q = some (w.map nI)) (hw : w.length ≤ 5) (hb : ∀ x, x ∈ w → x < 256) (hs : st + w.length ≤ n) : ∀ t i, i ≤ w.length → w.drop i = t → WP E (c + 6) 11 28 [some (.ref (A 14)), some (.ref q), some (.int (nI i))] [] (oh E ah A (su S 14 (rO A n a tk st vl fa fp))) (fun r1 x1 => r1 = some (.int (b2i (wq T t (st + i) = true))) ∧ x1 = oh E ah A (su S 14 (rO A n a tk st vl fa fp)))
  | [], i, hi, ht => by
    have hl : i = w.length := by
      have := congrArg List.length ht
      rw [List.length_drop] at this
      have : w.length - i = 0 := this
      omega
    have e1 : Int32.ofNat (w.map nI).length = nI w.length := by rw [List.length_map]; rfl
    rw [hl, r11_28]
    simp (disch := first | assumption | omega | decide | (simp only [List.length_cons, List.length_nil, Nat.reduceAdd, Nat.reduceLT]; done) | fail) only [r11_29, r11_29n, r11_33, x11_30 hq, e1, r11_62, r11_63 (x := 0) (Or.inl rfl), r11_63 (x := 1) (Or.inr rfl), r11_63 (b2i_or _), oGF_is, WPo_some, List.getElem?_cons_succ, List.getElem?_cons_zero, kil_n, kil_i, kil_a, kil_u, kil_l, Option.toList_some, Option.toList_none, List.cons_append, List.nil_append, List.set_cons_succ, List.set_cons_zero, addm1, Nat.reduceAdd, List.length_cons, List.length_nil, Nat.reduceLT, nI_clamp, nI_toInt, nI_leL, nI_Lle, nI_ltL, nI_Llt, nI_eqL, nI_Leq, nI_leE, nI_ltE, nI_eqE, nI_eqM, nI_add, nI_addL, nI_Ladd, nI_mulL, nI_Lmul, pk_mul, pk_sub, nI_subL, nI_Lsub, i2l_nI, Int.toNat_natCast, Nat.not_lt_zero, Nat.zero_le, ifT, ifF, not_true_eq_false, not_false_eq_true, if_true, if_false, or_self, and_self, true_and, and_true, or_true, true_or, false_or, or_false, false_and, and_false]
    exact rfl
  | x :: t, i, hi, ht => by
    obtain ⟨d1, d2, d3, d4⟩ := dropE ht
    have hx := hb x d4
    have e1 : Int32.ofNat (w.map nI).length = nI w.length := by rw [List.length_map]; rfl
    have ih := l_wi hO h13 hn (a := a) (tk := tk) (fa := fa) (vl := vl) (fp := fp) hq hw hb hs t (i + 1) (by omega) d3
    have k := c_signAt (E := E) (c := c + 5) hO h13 hn (a := a) (tk := tk) (st := st) (fa := fa) (vl := vl) (fp := fp) (show st + i < 2 ^ 31 by omega)
    rw [if_pos (show st + i < n by omega)] at k
    have b1 := bt_lt (T := T) (p := st + i)
    have ci : oCI (hg E (oh E ah A (su S 14 (rO A n a tk st vl fa fp))) (A 14)) = 0 := by rw [hx_14 hO, su_at]; rfl
    have g0 : hg E (oh E ah A (su S 14 (rO A n a tk st vl fa fp))) (A 14) = some (.inr (0, [.ref (A 13), .int (nI n), .int (nI a), .int (nI tk), .int (nI st), .long vl, .int (nI fa), .int fp])) := by rw [hx_14 hO, su_at]; rfl
    have x48 := fun a0 a1 a2 d Q => x11_48 (E := E) (c := c) (ah := oh E ah A (su S 14 (rO A n a tk st vl fa fp))) (a0 := a0) (a1 := a1) (a2 := a2) (d := d) (Q := Q) hq (show i < (w.map nI).length by rw [List.length_map]; omega) (show i < 2 ^ 31 by omega)
    rw [d2] at x48
    rw [r11_28]
    by_cases y : bt T (st + i) = x
    · rw [show (b2i (wq T (x :: t) (st + i) = true)) = b2i (wq T t (st + (i + 1)) = true) by simp only [wq, y, decide_true, Bool.true_and, Nat.add_assoc]]
      simp (disch := first | assumption | omega | decide | (simp only [List.length_cons, List.length_nil, Nat.reduceAdd, Nat.reduceLT]; done) | fail) only [r11_29, r11_29n, r11_33, r11_36, r11_37, r11_38, r11_41, r11_42, r11_46, r11_46n, r11_47, r11_51, r11_54, r11_55 (x := 0) (Or.inl rfl), r11_55 (x := 1) (Or.inr rfl), r11_55 (b2i_or _), r11_56, r11_59, x11_30 hq, e1, g0, q11_43 k ci, x48, y, oGF_is, WPo_some, List.getElem?_cons_succ, List.getElem?_cons_zero, kil_n, kil_i, kil_a, kil_u, kil_l, Option.toList_some, Option.toList_none, List.cons_append, List.nil_append, List.set_cons_succ, List.set_cons_zero, addm1, Nat.reduceAdd, List.length_cons, List.length_nil, Nat.reduceLT, nI_clamp, nI_toInt, nI_leL, nI_Lle, nI_ltL, nI_Llt, nI_eqL, nI_Leq, nI_leE, nI_ltE, nI_eqE, nI_eqM, nI_add, nI_addL, nI_Ladd, nI_mulL, nI_Lmul, pk_mul, pk_sub, nI_subL, nI_Lsub, i2l_nI, Int.toNat_natCast, Nat.not_lt_zero, Nat.zero_le, ifT, ifF, not_true_eq_false, not_false_eq_true, if_true, if_false, or_self, and_self, true_and, and_true, or_true, true_or, false_or, or_false, false_and, and_false]
      exact ih
    · rw [show (b2i (wq T (x :: t) (st + i) = true)) = 0 by simp only [wq, y, decide_false, Bool.false_and, Bool.false_eq_true]; rfl]
      simp (disch := first | assumption | omega | decide | (simp only [List.length_cons, List.length_nil, Nat.reduceAdd, Nat.reduceLT]; done) | fail) only [r11_29, r11_29n, r11_33, r11_36, r11_37, r11_38, r11_41, r11_42, r11_46, r11_46n, r11_47, r11_51, r11_54, r11_55 (x := 0) (Or.inl rfl), r11_55 (x := 1) (Or.inr rfl), r11_55 (b2i_or _), x11_30 hq, e1, g0, q11_43 k ci, x48, y, oGF_is, WPo_some, List.getElem?_cons_succ, List.getElem?_cons_zero, kil_n, kil_i, kil_a, kil_u, kil_l, Option.toList_some, Option.toList_none, List.cons_append, List.nil_append, List.set_cons_succ, List.set_cons_zero, addm1, Nat.reduceAdd, List.length_cons, List.length_nil, Nat.reduceLT, nI_clamp, nI_toInt, nI_leL, nI_Lle, nI_ltL, nI_Llt, nI_eqL, nI_Leq, nI_leE, nI_ltE, nI_eqE, nI_eqM, nI_add, nI_addL, nI_Ladd, nI_mulL, nI_Lmul, pk_mul, pk_sub, nI_subL, nI_Lsub, i2l_nI, Int.toNat_natCast, Nat.not_lt_zero, Nat.zero_le, ifT, ifF, not_true_eq_false, not_false_eq_true, if_true, if_false, or_self, and_self, true_and, and_true, or_true, true_or, false_or, or_false, false_and, and_false]
theorem wS_b (k : Nat) : (wS k).length ≤ 5 ∧ ∀ x, x ∈ wS k → x < 256 := by
  unfold wS
  split <;> decide
theorem c_wordIs (hO : XO E ah A) (hE : StE E) (h13 : S 13 = .inl (2, 500, .inl T)) (hn : n ≤ 500) {s : aPs} (hs : s.1 ≤ n) {k a : Nat} (hk : 100 ≤ k) (hk2 : k ≤ 110) (h1 : E.2.2.1 k = some (.ref a)) : EV E (c + 6) 11 [.ref (A 14), .ref a] (oh E ah A (su S 14 (rP A T n s))) (some (.int (b2i (wdP T n s.1 k = true)))) (oh E ah A (su S 14 (rP A T n s))) := by
  obtain ⟨a', h1', h2⟩ := hE k hk hk2
  have ea : a = a' := by
    rw [h1] at h1'
    injection h1' with h1'
    injection h1'
  subst ea
  refine e11 ?_
  obtain ⟨p, fa, fp⟩ := s
  dsimp only at hs ⊢
  have w1 := wS_b k
  have hS := nxS_le (T := T) hs
  have hE2 := nxE_le (T := T) hs
  have h5 := nxT_le (T := T) (n := n) (p := p)
  have e1 : Int32.ofNat ((wS k).map nI).length = nI (wS k).length := by rw [List.length_map]; rfl
  have g0 : hg E (oh E ah A (su S 14 (rP A T n (p, fa, fp)))) (A 14) = some (.inr (0, [.ref (A 13), .int (nI n), .int (nI (nxE T n p)), .int (nI (nxT T n p)), .int (nI (nxS T n p)), .long (nxV T n p), .int (nI fa), .int fp])) := by rw [hx_14 hO, su_at]; rfl
  unfold wdP wdB
  by_cases y : nxT T n p = 1
  · by_cases z : nxE T n p - nxS T n p = (wS k).length
    · have l := l_wi (E := E) (c := c) hO h13 hn (a := nxE T n p) (tk := nxT T n p) (st := nxS T n p) (fa := fa) (vl := nxV T n p) (fp := fp) h2 w1.1 w1.2 (by omega) (wS k) 0 (by omega) rfl
      rw [Nat.add_zero] at l
      simp (disch := first | assumption | omega | decide | (simp only [List.length_cons, List.length_nil, Nat.reduceAdd, Nat.reduceLT]; done) | fail) only [r11_0, r11_1, r11_4, r11_5, r11_8, r11_9, r11_12, r11_13, r11_16, r11_17, r11_17n, r11_21, r11_24, r11_25 (x := 0) (Or.inl rfl), r11_25 (x := 1) (Or.inr rfl), r11_25 (b2i_or _), r11_26, r11_27, x11_18 h2, e1, g0, y, z, oGF_is, WPo_some, List.getElem?_cons_succ, List.getElem?_cons_zero, kil_n, kil_i, kil_a, kil_u, kil_l, Option.toList_some, Option.toList_none, List.cons_append, List.nil_append, List.set_cons_succ, List.set_cons_zero, addm1, Nat.reduceAdd, List.length_cons, List.length_nil, Nat.reduceLT, nI_clamp, nI_toInt, nI_leL, nI_Lle, nI_ltL, nI_Llt, nI_eqL, nI_Leq, nI_leE, nI_ltE, nI_eqE, nI_eqM, nI_add, nI_addL, nI_Ladd, nI_mulL, nI_Lmul, pk_mul, pk_sub, nI_subL, nI_Lsub, i2l_nI, Int.toNat_natCast, Nat.not_lt_zero, Nat.zero_le, ifT, ifF, not_true_eq_false, not_false_eq_true, if_true, if_false, or_self, and_self, true_and, and_true, or_true, true_or, false_or, or_false, false_and, and_false, decide_true, Bool.true_and]
      exact l
    · simp (disch := first | assumption | omega | decide | (simp only [List.length_cons, List.length_nil, Nat.reduceAdd, Nat.reduceLT]; done) | fail) only [r11_0, r11_1, r11_4, r11_5, r11_8, r11_9, r11_12, r11_13, r11_16, r11_17, r11_17n, r11_21, r11_24, r11_25 (x := 0) (Or.inl rfl), r11_25 (x := 1) (Or.inr rfl), r11_25 (b2i_or _), x11_18 h2, e1, g0, y, z, oGF_is, WPo_some, List.getElem?_cons_succ, List.getElem?_cons_zero, kil_n, kil_i, kil_a, kil_u, kil_l, Option.toList_some, Option.toList_none, List.cons_append, List.nil_append, List.set_cons_succ, List.set_cons_zero, addm1, Nat.reduceAdd, List.length_cons, List.length_nil, Nat.reduceLT, nI_clamp, nI_toInt, nI_leL, nI_Lle, nI_ltL, nI_Llt, nI_eqL, nI_Leq, nI_leE, nI_ltE, nI_eqE, nI_eqM, nI_add, nI_addL, nI_Ladd, nI_mulL, nI_Lmul, pk_mul, pk_sub, nI_subL, nI_Lsub, i2l_nI, Int.toNat_natCast, Nat.not_lt_zero, Nat.zero_le, ifT, ifF, not_true_eq_false, not_false_eq_true, if_true, if_false, or_self, and_self, true_and, and_true, or_true, true_or, false_or, or_false, false_and, and_false, decide_true, decide_false, Bool.true_and, Bool.false_and, Bool.false_eq_true]
      exact rfl
  · simp (disch := first | assumption | omega | decide | (simp only [List.length_cons, List.length_nil, Nat.reduceAdd, Nat.reduceLT]; done) | fail) only [r11_0, r11_1, r11_4, r11_5, r11_8, r11_9, r11_12, r11_13, r11_16, r11_17, r11_17n, r11_21, r11_24, r11_25 (x := 0) (Or.inl rfl), r11_25 (x := 1) (Or.inr rfl), r11_25 (b2i_or _), g0, y, oGF_is, WPo_some, List.getElem?_cons_succ, List.getElem?_cons_zero, kil_n, kil_i, kil_a, kil_u, kil_l, Option.toList_some, Option.toList_none, List.cons_append, List.nil_append, List.set_cons_succ, List.set_cons_zero, addm1, Nat.reduceAdd, List.length_cons, List.length_nil, Nat.reduceLT, nI_clamp, nI_toInt, nI_leL, nI_Lle, nI_ltL, nI_Llt, nI_eqL, nI_Leq, nI_leE, nI_ltE, nI_eqE, nI_eqM, nI_add, nI_addL, nI_Ladd, nI_mulL, nI_Lmul, pk_mul, pk_sub, nI_subL, nI_Lsub, i2l_nI, Int.toNat_natCast, Nat.not_lt_zero, Nat.zero_le, ifT, ifF, not_true_eq_false, not_false_eq_true, if_true, if_false, or_self, and_self, true_and, and_true, or_true, true_or, false_or, or_false, false_and, and_false, decide_false, Bool.false_and, Bool.false_eq_true]
    exact rfl
theorem c_cardKind (hO : XO E ah A) (hE : StE E) (h13 : S 13 = .inl (2, 500, .inl T)) (hn : n ≤ 500) {s : aPs} (hs : s.1 ≤ n) : EV E (c + 7) 10 [.ref (A 14)] (oh E ah A (su S 14 (rP A T n s))) (some (.int (if kdN T n s.1 = 8 then -1 else nI (kdN T n s.1)))) (oh E ah A (su S 14 (rP A T n s))) := by
  refine e10 ?_
  obtain ⟨a3, b3, -⟩ := hE 103 (by decide) (by decide)
  obtain ⟨a4, b4, -⟩ := hE 104 (by decide) (by decide)
  obtain ⟨a5, b5, -⟩ := hE 105 (by decide) (by decide)
  obtain ⟨a6, b6, -⟩ := hE 106 (by decide) (by decide)
  obtain ⟨a7, b7, -⟩ := hE 107 (by decide) (by decide)
  obtain ⟨a8, b8, -⟩ := hE 108 (by decide) (by decide)
  obtain ⟨a9, b9, -⟩ := hE 109 (by decide) (by decide)
  obtain ⟨a0, b0, -⟩ := hE 110 (by decide) (by decide)
  have ci := rP_ci (E := E) (S := S) (T := T) (n := n) (s := s) hO
  have k := fun {k a : Nat} (hk : 100 ≤ k) (hk2 : k ≤ 110) (h1 : E.2.2.1 k = some (.ref a)) => c_wordIs (c := c) hO hE h13 hn hs hk hk2 h1
  have k3 := k (by decide) (by decide) b3
  have k4 := k (by decide) (by decide) b4
  have k5 := k (by decide) (by decide) b5
  have k6 := k (by decide) (by decide) b6
  have k7 := k (by decide) (by decide) b7
  have k8 := k (by decide) (by decide) b8
  have k9 := k (by decide) (by decide) b9
  have k0 := k (by decide) (by decide) b0
  by_cases h103 : wdP T n s.1 103 = true
  · have ek : kdN T n s.1 = 0 := by unfold kdN; simp only [h103, Bool.false_eq_true, if_true, if_false]
    rw [ek]
    simp (disch := first | assumption | omega | decide | (simp only [List.length_cons, List.length_nil, Nat.reduceAdd, Nat.reduceLT]; done) | fail) only [r10_0, r10_1, r10_6, r10_9, r10_10, gC, b3, q10_3 k3 ci, b2i_eq0, h103, oGF_is, WPo_some, List.getElem?_cons_succ, List.getElem?_cons_zero, kil_n, kil_i, kil_a, kil_u, kil_l, Option.toList_some, Option.toList_none, List.cons_append, List.nil_append, List.set_cons_succ, List.set_cons_zero, addm1, Nat.reduceAdd, List.length_cons, List.length_nil, Nat.reduceLT, not_true_eq_false, not_false_eq_true, if_true, if_false, or_self, and_self, true_and, and_true, or_true, true_or, false_or, or_false, false_and, and_false]
    first | exact rfl | exact ⟨rfl, trivial⟩ | done
  · simp (disch := first | assumption | omega | decide | (simp only [List.length_cons, List.length_nil, Nat.reduceAdd, Nat.reduceLT]; done) | fail) only [r10_0, r10_1, r10_6, gC, b3, q10_3 k3 ci, b2i_eq0, h103, Bool.false_eq_true, oGF_is, WPo_some, List.getElem?_cons_succ, List.getElem?_cons_zero, kil_n, kil_i, kil_a, kil_u, kil_l, Option.toList_some, Option.toList_none, List.cons_append, List.nil_append, List.set_cons_succ, List.set_cons_zero, addm1, Nat.reduceAdd, List.length_cons, List.length_nil, Nat.reduceLT, not_true_eq_false, not_false_eq_true, if_true, if_false, or_self, and_self, true_and, and_true, or_true, true_or, false_or, or_false, false_and, and_false]
    by_cases h104 : wdP T n s.1 104 = true
    · have ek : kdN T n s.1 = 1 := by unfold kdN; simp only [h103, h104, Bool.false_eq_true, if_true, if_false]
      rw [ek]
      simp (disch := first | assumption | omega | decide | (simp only [List.length_cons, List.length_nil, Nat.reduceAdd, Nat.reduceLT]; done) | fail) only [r10_11, r10_12, r10_17, r10_20, r10_21, gC, b4, q10_14 k4 ci, b2i_eq0, h104, oGF_is, WPo_some, List.getElem?_cons_succ, List.getElem?_cons_zero, kil_n, kil_i, kil_a, kil_u, kil_l, Option.toList_some, Option.toList_none, List.cons_append, List.nil_append, List.set_cons_succ, List.set_cons_zero, addm1, Nat.reduceAdd, List.length_cons, List.length_nil, Nat.reduceLT, not_true_eq_false, not_false_eq_true, if_true, if_false, or_self, and_self, true_and, and_true, or_true, true_or, false_or, or_false, false_and, and_false]
      first | exact rfl | exact ⟨rfl, trivial⟩ | done
    · simp (disch := first | assumption | omega | decide | (simp only [List.length_cons, List.length_nil, Nat.reduceAdd, Nat.reduceLT]; done) | fail) only [r10_11, r10_12, r10_17, gC, b4, q10_14 k4 ci, b2i_eq0, h104, Bool.false_eq_true, oGF_is, WPo_some, List.getElem?_cons_succ, List.getElem?_cons_zero, kil_n, kil_i, kil_a, kil_u, kil_l, Option.toList_some, Option.toList_none, List.cons_append, List.nil_append, List.set_cons_succ, List.set_cons_zero, addm1, Nat.reduceAdd, List.length_cons, List.length_nil, Nat.reduceLT, not_true_eq_false, not_false_eq_true, if_true, if_false, or_self, and_self, true_and, and_true, or_true, true_or, false_or, or_false, false_and, and_false]
      by_cases h105 : wdP T n s.1 105 = true
      · have ek : kdN T n s.1 = 2 := by unfold kdN; simp only [h103, h104, h105, Bool.false_eq_true, if_true, if_false]
        rw [ek]
        simp (disch := first | assumption | omega | decide | (simp only [List.length_cons, List.length_nil, Nat.reduceAdd, Nat.reduceLT]; done) | fail) only [r10_22, r10_23, r10_28, r10_31, r10_32, gC, b5, q10_25 k5 ci, b2i_eq0, h105, oGF_is, WPo_some, List.getElem?_cons_succ, List.getElem?_cons_zero, kil_n, kil_i, kil_a, kil_u, kil_l, Option.toList_some, Option.toList_none, List.cons_append, List.nil_append, List.set_cons_succ, List.set_cons_zero, addm1, Nat.reduceAdd, List.length_cons, List.length_nil, Nat.reduceLT, not_true_eq_false, not_false_eq_true, if_true, if_false, or_self, and_self, true_and, and_true, or_true, true_or, false_or, or_false, false_and, and_false]
        first | exact rfl | exact ⟨rfl, trivial⟩ | done
      · simp (disch := first | assumption | omega | decide | (simp only [List.length_cons, List.length_nil, Nat.reduceAdd, Nat.reduceLT]; done) | fail) only [r10_22, r10_23, r10_28, gC, b5, q10_25 k5 ci, b2i_eq0, h105, Bool.false_eq_true, oGF_is, WPo_some, List.getElem?_cons_succ, List.getElem?_cons_zero, kil_n, kil_i, kil_a, kil_u, kil_l, Option.toList_some, Option.toList_none, List.cons_append, List.nil_append, List.set_cons_succ, List.set_cons_zero, addm1, Nat.reduceAdd, List.length_cons, List.length_nil, Nat.reduceLT, not_true_eq_false, not_false_eq_true, if_true, if_false, or_self, and_self, true_and, and_true, or_true, true_or, false_or, or_false, false_and, and_false]
        by_cases h106 : wdP T n s.1 106 = true
        · have ek : kdN T n s.1 = 3 := by unfold kdN; simp only [h103, h104, h105, h106, Bool.false_eq_true, if_true, if_false]
          rw [ek]
          simp (disch := first | assumption | omega | decide | (simp only [List.length_cons, List.length_nil, Nat.reduceAdd, Nat.reduceLT]; done) | fail) only [r10_33, r10_34, r10_39, r10_42, r10_43, gC, b6, q10_36 k6 ci, b2i_eq0, h106, oGF_is, WPo_some, List.getElem?_cons_succ, List.getElem?_cons_zero, kil_n, kil_i, kil_a, kil_u, kil_l, Option.toList_some, Option.toList_none, List.cons_append, List.nil_append, List.set_cons_succ, List.set_cons_zero, addm1, Nat.reduceAdd, List.length_cons, List.length_nil, Nat.reduceLT, not_true_eq_false, not_false_eq_true, if_true, if_false, or_self, and_self, true_and, and_true, or_true, true_or, false_or, or_false, false_and, and_false]
          first | exact rfl | exact ⟨rfl, trivial⟩ | done
        · simp (disch := first | assumption | omega | decide | (simp only [List.length_cons, List.length_nil, Nat.reduceAdd, Nat.reduceLT]; done) | fail) only [r10_33, r10_34, r10_39, gC, b6, q10_36 k6 ci, b2i_eq0, h106, Bool.false_eq_true, oGF_is, WPo_some, List.getElem?_cons_succ, List.getElem?_cons_zero, kil_n, kil_i, kil_a, kil_u, kil_l, Option.toList_some, Option.toList_none, List.cons_append, List.nil_append, List.set_cons_succ, List.set_cons_zero, addm1, Nat.reduceAdd, List.length_cons, List.length_nil, Nat.reduceLT, not_true_eq_false, not_false_eq_true, if_true, if_false, or_self, and_self, true_and, and_true, or_true, true_or, false_or, or_false, false_and, and_false]
          by_cases h107 : wdP T n s.1 107 = true
          · have ek : kdN T n s.1 = 4 := by unfold kdN; simp only [h103, h104, h105, h106, h107, Bool.false_eq_true, if_true, if_false]
            rw [ek]
            simp (disch := first | assumption | omega | decide | (simp only [List.length_cons, List.length_nil, Nat.reduceAdd, Nat.reduceLT]; done) | fail) only [r10_44, r10_45, r10_50, r10_53, r10_54, gC, b7, q10_47 k7 ci, b2i_eq0, h107, oGF_is, WPo_some, List.getElem?_cons_succ, List.getElem?_cons_zero, kil_n, kil_i, kil_a, kil_u, kil_l, Option.toList_some, Option.toList_none, List.cons_append, List.nil_append, List.set_cons_succ, List.set_cons_zero, addm1, Nat.reduceAdd, List.length_cons, List.length_nil, Nat.reduceLT, not_true_eq_false, not_false_eq_true, if_true, if_false, or_self, and_self, true_and, and_true, or_true, true_or, false_or, or_false, false_and, and_false]
            first | exact rfl | exact ⟨rfl, trivial⟩ | done
          · simp (disch := first | assumption | omega | decide | (simp only [List.length_cons, List.length_nil, Nat.reduceAdd, Nat.reduceLT]; done) | fail) only [r10_44, r10_45, r10_50, gC, b7, q10_47 k7 ci, b2i_eq0, h107, Bool.false_eq_true, oGF_is, WPo_some, List.getElem?_cons_succ, List.getElem?_cons_zero, kil_n, kil_i, kil_a, kil_u, kil_l, Option.toList_some, Option.toList_none, List.cons_append, List.nil_append, List.set_cons_succ, List.set_cons_zero, addm1, Nat.reduceAdd, List.length_cons, List.length_nil, Nat.reduceLT, not_true_eq_false, not_false_eq_true, if_true, if_false, or_self, and_self, true_and, and_true, or_true, true_or, false_or, or_false, false_and, and_false]
            by_cases h108 : wdP T n s.1 108 = true
            · have ek : kdN T n s.1 = 5 := by unfold kdN; simp only [h103, h104, h105, h106, h107, h108, Bool.false_eq_true, if_true, if_false]
              rw [ek]
              simp (disch := first | assumption | omega | decide | (simp only [List.length_cons, List.length_nil, Nat.reduceAdd, Nat.reduceLT]; done) | fail) only [r10_55, r10_56, r10_61, r10_64, r10_65, gC, b8, q10_58 k8 ci, b2i_eq0, h108, oGF_is, WPo_some, List.getElem?_cons_succ, List.getElem?_cons_zero, kil_n, kil_i, kil_a, kil_u, kil_l, Option.toList_some, Option.toList_none, List.cons_append, List.nil_append, List.set_cons_succ, List.set_cons_zero, addm1, Nat.reduceAdd, List.length_cons, List.length_nil, Nat.reduceLT, not_true_eq_false, not_false_eq_true, if_true, if_false, or_self, and_self, true_and, and_true, or_true, true_or, false_or, or_false, false_and, and_false]
              first | exact rfl | exact ⟨rfl, trivial⟩ | done
            · simp (disch := first | assumption | omega | decide | (simp only [List.length_cons, List.length_nil, Nat.reduceAdd, Nat.reduceLT]; done) | fail) only [r10_55, r10_56, r10_61, gC, b8, q10_58 k8 ci, b2i_eq0, h108, Bool.false_eq_true, oGF_is, WPo_some, List.getElem?_cons_succ, List.getElem?_cons_zero, kil_n, kil_i, kil_a, kil_u, kil_l, Option.toList_some, Option.toList_none, List.cons_append, List.nil_append, List.set_cons_succ, List.set_cons_zero, addm1, Nat.reduceAdd, List.length_cons, List.length_nil, Nat.reduceLT, not_true_eq_false, not_false_eq_true, if_true, if_false, or_self, and_self, true_and, and_true, or_true, true_or, false_or, or_false, false_and, and_false]
              by_cases h109 : wdP T n s.1 109 = true
              · have ek : kdN T n s.1 = 6 := by unfold kdN; simp only [h103, h104, h105, h106, h107, h108, h109, Bool.false_eq_true, if_true, if_false]
                rw [ek]
                simp (disch := first | assumption | omega | decide | (simp only [List.length_cons, List.length_nil, Nat.reduceAdd, Nat.reduceLT]; done) | fail) only [r10_66, r10_67, r10_72, r10_75, r10_77, gC, b9, q10_69 k9 ci, b2i_eq0, h109, oGF_is, WPo_some, List.getElem?_cons_succ, List.getElem?_cons_zero, kil_n, kil_i, kil_a, kil_u, kil_l, Option.toList_some, Option.toList_none, List.cons_append, List.nil_append, List.set_cons_succ, List.set_cons_zero, addm1, Nat.reduceAdd, List.length_cons, List.length_nil, Nat.reduceLT, not_true_eq_false, not_false_eq_true, if_true, if_false, or_self, and_self, true_and, and_true, or_true, true_or, false_or, or_false, false_and, and_false]
                first | exact rfl | exact ⟨rfl, trivial⟩ | done
              · simp (disch := first | assumption | omega | decide | (simp only [List.length_cons, List.length_nil, Nat.reduceAdd, Nat.reduceLT]; done) | fail) only [r10_66, r10_67, r10_72, gC, b9, q10_69 k9 ci, b2i_eq0, h109, Bool.false_eq_true, oGF_is, WPo_some, List.getElem?_cons_succ, List.getElem?_cons_zero, kil_n, kil_i, kil_a, kil_u, kil_l, Option.toList_some, Option.toList_none, List.cons_append, List.nil_append, List.set_cons_succ, List.set_cons_zero, addm1, Nat.reduceAdd, List.length_cons, List.length_nil, Nat.reduceLT, not_true_eq_false, not_false_eq_true, if_true, if_false, or_self, and_self, true_and, and_true, or_true, true_or, false_or, or_false, false_and, and_false]
                by_cases h110 : wdP T n s.1 110 = true
                · have ek : kdN T n s.1 = 7 := by unfold kdN; simp only [h103, h104, h105, h106, h107, h108, h109, h110, Bool.false_eq_true, if_true, if_false]
                  rw [ek]
                  simp (disch := first | assumption | omega | decide | (simp only [List.length_cons, List.length_nil, Nat.reduceAdd, Nat.reduceLT]; done) | fail) only [r10_78, r10_79, r10_84, r10_87, r10_89, r10_92, r10_93, gC, b0, q10_81 k0 ci, b2i_eq0, h110, oGF_is, WPo_some, List.getElem?_cons_succ, List.getElem?_cons_zero, kil_n, kil_i, kil_a, kil_u, kil_l, Option.toList_some, Option.toList_none, List.cons_append, List.nil_append, List.set_cons_succ, List.set_cons_zero, addm1, Nat.reduceAdd, List.length_cons, List.length_nil, Nat.reduceLT, not_true_eq_false, not_false_eq_true, if_true, if_false, or_self, and_self, true_and, and_true, or_true, true_or, false_or, or_false, false_and, and_false]
                  first | exact rfl | exact ⟨rfl, trivial⟩ | done
                · have ek : kdN T n s.1 = 8 := by unfold kdN; simp only [h103, h104, h105, h106, h107, h108, h109, h110, Bool.false_eq_true, if_true, if_false]
                  rw [ek]
                  simp (disch := first | assumption | omega | decide | (simp only [List.length_cons, List.length_nil, Nat.reduceAdd, Nat.reduceLT]; done) | fail) only [r10_78, r10_79, r10_84, r10_92, r10_93, gC, b0, q10_81 k0 ci, b2i_eq0, h110, Bool.false_eq_true, oGF_is, WPo_some, List.getElem?_cons_succ, List.getElem?_cons_zero, kil_n, kil_i, kil_a, kil_u, kil_l, Option.toList_some, Option.toList_none, List.cons_append, List.nil_append, List.set_cons_succ, List.set_cons_zero, addm1, Nat.reduceAdd, List.length_cons, List.length_nil, Nat.reduceLT, not_true_eq_false, not_false_eq_true, if_true, if_false, or_self, and_self, true_and, and_true, or_true, true_or, false_or, or_false, false_and, and_false]
                  first | done | exact rfl | exact ⟨rfl, trivial⟩
theorem c_readWhen (hO : XO E ah A) (hE : StE E) (h13 : S 13 = .inl (2, 500, .inl T)) (hn : n ≤ 500) {p : Nat} (hp : p ≤ n) : EV E (c + 7) 4 [.ref (A 14)] (oh E ah A (su S 14 (rP A T n (gon p)))) (some (.int (nI (rdI T n p).1))) (oh E ah A (su S 14 (rP A T n (rdI T n p).2))) := by
  refine e4 ?_
  have hE2 := nxE_le (T := T) hp
  have hE3 := nxE_le (T := T) hE2.2
  obtain ⟨a0, b0, -⟩ := hE 100 (by decide) (by decide)
  obtain ⟨a1, b1, -⟩ := hE 101 (by decide) (by decide)
  obtain ⟨a2, b2, -⟩ := hE 102 (by decide) (by decide)
  have ci := rP_ci (E := E) (S := S) (T := T) (n := n) (s := gon p) hO
  have ci2 := rP_ci (E := E) (S := S) (T := T) (n := n) (s := gon (nxE T n p)) hO
  have k0 := c_wordIs (c := c) hO hE h13 hn (s := gon p) hp (by decide) (by decide) b0
  have k1 := c_wordIs (c := c) hO hE h13 hn (s := gon (nxE T n p)) hE2.2 (by decide) (by decide) b1
  have k2 := c_wordIs (c := c) hO hE h13 hn (s := gon (nxE T n p)) hE2.2 (by decide) (by decide) b2
  have n1 := c_nextP (E := E) (c := c + 4) hO h13 hn (fa := 0) (fp := -1) hp
  have n2 := c_nextP (E := E) (c := c + 4) hO h13 hn (fa := 0) (fp := -1) hE2.2
  have f1 := c_refuse (E := E) (c := c + 6) (S := S) (T := T) (n := n) hO (p := p) (k := 2)
  have f2 := c_refuse (E := E) (c := c + 6) (S := S) (T := T) (n := n) hO (p := nxE T n p) (k := 2)
  have e2 : nI 2 = (2 : Int32) := rfl
  rw [e2] at f1 f2
  have g1 : (gon p).1 = p := rfl
  have g2 : (gon (nxE T n p)).1 = nxE T n p := rfl
  have g3 : ((nxE T n p, 0, -1) : aPs) = gon (nxE T n p) := rfl
  have g4 : ((p, 0, -1) : aPs) = gon p := rfl
  have g5 : ((nxE T n (nxE T n p), 0, -1) : aPs) = gon (nxE T n (nxE T n p)) := rfl
  rw [g1] at k0
  rw [g2] at k1 k2
  rw [g4, g3] at n1
  rw [g3, g5] at n2
  unfold rdI
  by_cases h0 : wdP T n p 100 = true
  · by_cases h1 : wdP T n (nxE T n p) 101 = true
    · simp (disch := first | assumption | omega | decide | (simp only [List.length_cons, List.length_nil, Nat.reduceAdd, Nat.reduceLT]; done) | fail) only [r4_0, r4_1, r4_6, r4_9, r4_10, r4_14, r4_15, r4_16, r4_20, r4_21, r4_26, r4_27, r4_28, r4_31, r4_32, r4_37, r4_40, r4_41, r4_45, r4_46, r4_47, r4_51, r4_52, r4_55, r4_56, r4_59, r4_60, gC, b0, b1, b2, q4_3 k0 ci, q4_17 n1 ci, q4_23 k1 ci2, q4_34 k2 ci2, q4_48 n2 ci2, h0, h1, b2i_eq0, oGF_is, WPo_some, List.getElem?_cons_succ, List.getElem?_cons_zero, kil_n, kil_i, kil_a, kil_u, kil_l, Option.toList_some, Option.toList_none, List.cons_append, List.nil_append, List.set_cons_succ, List.set_cons_zero, addm1, Nat.reduceAdd, List.length_cons, List.length_nil, Nat.reduceLT, not_true_eq_false, not_false_eq_true, if_true, if_false, or_self, and_self, true_and, and_true, or_true, true_or, false_or, or_false, false_and, and_false]
      exact rfl
    · by_cases h2 : wdP T n (nxE T n p) 102 = true
      · simp (disch := first | assumption | omega | decide | (simp only [List.length_cons, List.length_nil, Nat.reduceAdd, Nat.reduceLT]; done) | fail) only [r4_0, r4_1, r4_6, r4_9, r4_10, r4_14, r4_15, r4_16, r4_20, r4_21, r4_26, r4_27, r4_28, r4_31, r4_32, r4_37, r4_40, r4_41, r4_45, r4_46, r4_47, r4_51, r4_52, r4_55, r4_56, r4_59, r4_60, gC, b0, b1, b2, q4_3 k0 ci, q4_17 n1 ci, q4_23 k1 ci2, q4_34 k2 ci2, q4_48 n2 ci2, h0, h1, h2, b2i_eq0, Bool.false_eq_true, oGF_is, WPo_some, List.getElem?_cons_succ, List.getElem?_cons_zero, kil_n, kil_i, kil_a, kil_u, kil_l, Option.toList_some, Option.toList_none, List.cons_append, List.nil_append, List.set_cons_succ, List.set_cons_zero, addm1, Nat.reduceAdd, List.length_cons, List.length_nil, Nat.reduceLT, not_true_eq_false, not_false_eq_true, if_true, if_false, or_self, and_self, true_and, and_true, or_true, true_or, false_or, or_false, false_and, and_false]
        exact rfl
      · simp (disch := first | assumption | omega | decide | (simp only [List.length_cons, List.length_nil, Nat.reduceAdd, Nat.reduceLT]; done) | fail) only [r4_0, r4_1, r4_6, r4_9, r4_10, r4_14, r4_15, r4_16, r4_20, r4_21, r4_26, r4_27, r4_28, r4_31, r4_32, r4_37, r4_40, r4_41, r4_45, r4_46, r4_47, r4_51, r4_52, r4_55, r4_56, r4_59, r4_60, gC, b0, b1, b2, q4_3 k0 ci, q4_17 n1 ci, q4_23 k1 ci2, q4_34 k2 ci2, q4_42 f2 ci2, h0, h1, h2, b2i_eq0, Bool.false_eq_true, oGF_is, WPo_some, List.getElem?_cons_succ, List.getElem?_cons_zero, kil_n, kil_i, kil_a, kil_u, kil_l, Option.toList_some, Option.toList_none, List.cons_append, List.nil_append, List.set_cons_succ, List.set_cons_zero, addm1, Nat.reduceAdd, List.length_cons, List.length_nil, Nat.reduceLT, not_true_eq_false, not_false_eq_true, if_true, if_false, or_self, and_self, true_and, and_true, or_true, true_or, false_or, or_false, false_and, and_false]
        exact rfl
  · simp (disch := first | assumption | omega | decide | (simp only [List.length_cons, List.length_nil, Nat.reduceAdd, Nat.reduceLT]; done) | fail) only [r4_0, r4_1, r4_6, r4_9, r4_10, r4_14, r4_15, r4_16, r4_20, r4_21, r4_26, r4_27, r4_28, r4_31, r4_32, r4_37, r4_40, r4_41, r4_45, r4_46, r4_47, r4_51, r4_52, r4_55, r4_56, r4_59, r4_60, gC, b0, q4_3 k0 ci, q4_11 f1 ci, h0, b2i_eq0, Bool.false_eq_true, oGF_is, WPo_some, List.getElem?_cons_succ, List.getElem?_cons_zero, kil_n, kil_i, kil_a, kil_u, kil_l, Option.toList_some, Option.toList_none, List.cons_append, List.nil_append, List.set_cons_succ, List.set_cons_zero, addm1, Nat.reduceAdd, List.length_cons, List.length_nil, Nat.reduceLT, not_true_eq_false, not_false_eq_true, if_true, if_false, or_self, and_self, true_and, and_true, or_true, true_or, false_or, or_false, false_and, and_false]
    exact rfl
end CRN

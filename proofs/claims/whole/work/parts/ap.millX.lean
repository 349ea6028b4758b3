/-! The class' mill: a card -/
noncomputable def mst (A : Nat → Nat) (S : Nat → aE) (st : aMs) (al : Nat) (ac : Int32) (dn : Nat) : Nat → aE := fun q =>
  if q = 16 then .inr (7, [.ref (A 17), .ref (A 18), .int (nI st.2.2.1), .int 1, .int (bI st.2.2.2.1), .int (nI st.2.2.2.2.1), .int st.2.2.2.2.2, .int (nI al), .int ac, .int (nI dn)])
  else if q = 17 then .inl (1, 20, .inr (.inl st.1)) else if q = 18 then .inl (1, 40, .inr (.inl st.2.1)) else S q
section MLC
variable {E : aEnv} {c : Nat} {ah : aHp} {A : Nat → Nat} {S : Nat → aE} {b cn : Nat} {kd wn nm ls : Nat → Int32} {wl : Nat → Int64} {P R : Nat → Int64} {pn : Nat} {up : Bool} {at' : Nat} {cr : Int32} {al : Nat} {ac : Int32} {dn : Nat}
theorem hl16 (hO : XO E ah A) : hg E (oh E ah A (mst A S (P, R, pn, up, at', cr) al ac dn)) (A 16) = some (.inr (7, [.ref (A 17), .ref (A 18), .int (nI pn), .int 1, .int (bI up), .int (nI at'), .int cr, .int (nI al), .int ac, .int (nI dn)])) := by rw [hx_16 hO]; rfl
theorem hl17 (hO : XO E ah A) : hg E (oh E ah A (mst A S (P, R, pn, up, at', cr) al ac dn)) (A 17) = some (.inl (1, 20, .inr (.inl P))) := by rw [hx_17 hO]; rfl
theorem hl18 (hO : XO E ah A) : hg E (oh E ah A (mst A S (P, R, pn, up, at', cr) al ac dn)) (A 18) = some (.inl (1, 40, .inr (.inl R))) := by rw [hx_18 hO]; rfl
theorem mst_ne {q : Nat} {st : aMs} (h : ¬ (16 ≤ q ∧ q ≤ 18)) : mst A S st al ac dn q = S q := by
  unfold mst
  rw [if_neg (by omega), if_neg (by omega), if_neg (by omega)]
theorem mst_su {q : Nat} {e : aE} {st st' : aMs} {al' dn' : Nat} {ac' : Int32} (h : ∀ j, (if j = q then e else mst A S st al ac dn j) = mst A S st' al' ac' dn' j) : su (mst A S st al ac dn) q e = mst A S st' al' ac' dn' := funext h
theorem sl16 (hO : XO E ah A) {pn' : Nat} {up' : Bool} {at2 : Nat} {cr' : Int32} {al' : Nat} {ac' : Int32} {dn' : Nat} : hs E (oh E ah A (mst A S (P, R, pn, up, at', cr) al ac dn)) (A 16) (.inr (7, [.ref (A 17), .ref (A 18), .int (nI pn'), .int 1, .int (bI up'), .int (nI at2), .int cr', .int (nI al'), .int ac', .int (nI dn')])) = oh E ah A (mst A S (P, R, pn', up', at2, cr') al' ac' dn') := by
  rw [sx_16 hO]
  congr 1
  refine mst_su (fun j => ?_)
  unfold mst
  by_cases z : j = 16
  · simp [z]
  · simp [z]
theorem sl17 (hO : XO E ah A) {P' : Nat → Int64} : hs E (oh E ah A (mst A S (P, R, pn, up, at', cr) al ac dn)) (A 17) (.inl (1, 20, .inr (.inl P'))) = oh E ah A (mst A S (P', R, pn, up, at', cr) al ac dn) := by
  rw [sx_17 hO]
  congr 1
  refine mst_su (fun j => ?_)
  unfold mst
  by_cases z : j = 17
  · simp [z]
  · simp [z]
theorem sl18 (hO : XO E ah A) {R' : Nat → Int64} : hs E (oh E ah A (mst A S (P, R, pn, up, at', cr) al ac dn)) (A 18) (.inl (1, 40, .inr (.inl R'))) = oh E ah A (mst A S (P, R', pn, up, at', cr) al ac dn) := by
  rw [sx_18 hO]
  congr 1
  refine mst_su (fun j => ?_)
  unfold mst
  by_cases z : j = 18
  · simp [z]
  · simp [z]
theorem ml_ci (hO : XO E ah A) : oCI (hg E (oh E ah A (mst A S (P, R, pn, up, at', cr) al ac dn)) (A 16)) = 7 := by rw [hl16 hO]; rfl
theorem dkH_ml (hb : 61 ≤ b ∧ b ≤ 67) {st : aMs} (h : dkH A S b kd wn nm ls wl cn) : dkH A (mst A S st al ac dn) b kd wn nm ls wl cn := by
  obtain ⟨h1, h2, h3, h4, h5, h6⟩ := h
  exact ⟨by rw [mst_ne (by omega), h1], by rw [mst_ne (by omega), h2], by rw [mst_ne (by omega), h3], by rw [mst_ne (by omega), h4], by rw [mst_ne (by omega), h5], by rw [mst_ne (by omega), h6]⟩
theorem c_goOn (hO : XO E ah A) {x : Int32} : EV E c 106 [.ref (A 16), .int x] (oh E ah A (mst A S (P, R, pn, up, at', cr) al ac dn)) none (oh E ah A (mst A S (P, R, pn, up, at' + 1, cr + x) al ac dn)) := by
  refine e106 ?_
  simp (disch := first | assumption | omega | decide | (simp only [List.length_cons, List.length_nil, Nat.reduceAdd, Nat.reduceLT]; done) | fail) only [r106_0, r106_1, r106_1i, r106_2, r106_5, r106_6, r106_7, r106_10, r106_11, r106_11i, r106_12, r106_15, r106_16, r106_17, r106_20, hl16 hO, sl16 hO, pf_7060, pf_7050, oGF_is, WPo_some, List.getElem?_cons_succ, List.getElem?_cons_zero, kil_n, kil_i, kil_a, kil_u, kil_l, Option.toList_some, Option.toList_none, List.cons_append, List.nil_append, List.set_cons_succ, List.set_cons_zero, addm1, Nat.reduceAdd, List.length_cons, List.length_nil, Nat.reduceLT, nI_clamp, nI_toInt, nI_leL, nI_Lle, nI_ltL, nI_Llt, nI_eqL, nI_Leq, nI_leE, nI_ltE, nI_eqE, nI_eqM, nI_add, nI_addL, nI_Ladd, nI_mulL, nI_Lmul, pk_mul, pk_sub, nI_subL, nI_Lsub, i2l_nI, Int.toNat_natCast, Nat.not_lt_zero, Nat.zero_le, ifT, ifF, not_true_eq_false, not_false_eq_true, if_true, if_false, or_self, and_self, true_and, and_true, or_true, true_or, false_or, or_false, false_and, and_false]
theorem c_layM (hO : XO E ah A) {p : Nat} (hp : p < 20) {x : Int64} : EV E c 107 [.ref (A 16), .int (nI p), .long x] (oh E ah A (mst A S (P, R, pn, up, at', cr) al ac dn)) none (oh E ah A (mst A S (vp_updL P p x, R, pn, up, at', cr) al ac dn)) := by
  refine e107 ?_
  simp (disch := first | assumption | omega | decide | (simp only [List.length_cons, List.length_nil, Nat.reduceAdd, Nat.reduceLT]; done) | fail) only [r107_0, r107_1, r107_4, r107_5, r107_7, r107_10, r107_11, r107_14, r107_15, r107_16, r107_17, hl16 hO, hl17 hO, sl17 hO, pL, oGF_is, WPo_some, List.getElem?_cons_succ, List.getElem?_cons_zero, kil_n, kil_i, kil_a, kil_u, kil_l, Option.toList_some, Option.toList_none, List.cons_append, List.nil_append, List.set_cons_succ, List.set_cons_zero, addm1, Nat.reduceAdd, List.length_cons, List.length_nil, Nat.reduceLT, nI_clamp, nI_toInt, nI_leL, nI_Lle, nI_ltL, nI_Llt, nI_eqL, nI_Leq, nI_leE, nI_ltE, nI_eqE, nI_eqM, nI_add, nI_addL, nI_Ladd, nI_mulL, nI_Lmul, pk_mul, pk_sub, nI_subL, nI_Lsub, i2l_nI, Int.toNat_natCast, Nat.not_lt_zero, Nat.zero_le, ifT, ifF, not_true_eq_false, not_false_eq_true, if_true, if_false, or_self, and_self, true_and, and_true, or_true, true_or, false_or, or_false, false_and, and_false]
theorem c_numIn (hO : XO E ah A) {p : Nat} (hp : p < 20) : EV E c 101 [.ref (A 16), .int (nI p)] (oh E ah A (mst A S (P, R, pn, up, at', cr) al ac dn)) (some (.long (P p))) (oh E ah A (mst A S (P, R, pn, up, at', cr) al ac dn)) := by
  refine e101 ?_
  simp (disch := first | assumption | omega | decide | (simp only [List.length_cons, List.length_nil, Nat.reduceAdd, Nat.reduceLT]; done) | fail) only [r101_0, r101_1, r101_4, r101_5, r101_7, r101_10, r101_11, r101_14, r101_15, r101_16, r101_19, r101_20, hl16 hO, hl17 hO, gL, oGF_is, WPo_some, List.getElem?_cons_succ, List.getElem?_cons_zero, kil_n, kil_i, kil_a, kil_u, kil_l, Option.toList_some, Option.toList_none, List.cons_append, List.nil_append, List.set_cons_succ, List.set_cons_zero, addm1, Nat.reduceAdd, List.length_cons, List.length_nil, Nat.reduceLT, nI_clamp, nI_toInt, nI_leL, nI_Lle, nI_ltL, nI_Llt, nI_eqL, nI_Leq, nI_leE, nI_ltE, nI_eqE, nI_eqM, nI_add, nI_addL, nI_Ladd, nI_mulL, nI_Lmul, pk_mul, pk_sub, nI_subL, nI_Lsub, i2l_nI, Int.toNat_natCast, Nat.not_lt_zero, Nat.zero_le, ifT, ifF, not_true_eq_false, not_false_eq_true, if_true, if_false, or_self, and_self, true_and, and_true, or_true, true_or, false_or, or_false, false_and, and_false]
theorem c_numIn' (hO : XO E ah A) {x : Int32} : ∃ r, EV E c 101 [.ref (A 16), .int x] (oh E ah A (mst A S (P, R, pn, up, at', cr) al ac dn)) (some (.long r)) (oh E ah A (mst A S (P, R, pn, up, at', cr) al ac dn)) := by
  by_cases h : 0 ≤ x.toInt ∧ x.toInt < 20
  · obtain ⟨p, hp, rfl⟩ := i32_nat (n := 20) h.1 (by omega)
    exact ⟨P p, c_numIn hO hp⟩
  · refine ⟨0, e101 ?_⟩
    by_cases h1 : x < 0
    · simp (disch := first | assumption | omega | decide | (simp only [List.length_cons, List.length_nil, Nat.reduceAdd, Nat.reduceLT]; done) | fail) only [r101_0, r101_1, r101_4, r101_5, r101_7, r101_10, r101_11, r101_14, r101_15, r101_16, r101_19, r101_20, h1, oGF_is, WPo_some, List.getElem?_cons_succ, List.getElem?_cons_zero, kil_n, kil_i, kil_a, kil_u, kil_l, Option.toList_some, Option.toList_none, List.cons_append, List.nil_append, List.set_cons_succ, List.set_cons_zero, addm1, Nat.reduceAdd, List.length_cons, List.length_nil, Nat.reduceLT, not_true_eq_false, not_false_eq_true, if_true, if_false, or_self, and_self, true_and, and_true, or_true, true_or, false_or, or_false, false_and, and_false]
    · have h2 : (20 : Int32) ≤ x := by simp only [i32_lt, i32_le, i64_lt, i64_le, i2l_toInt, Int32.reduceToInt, Int64.reduceToInt] at h1 ⊢; omega
      simp (disch := first | assumption | omega | decide | (simp only [List.length_cons, List.length_nil, Nat.reduceAdd, Nat.reduceLT]; done) | fail) only [r101_0, r101_1, r101_4, r101_5, r101_7, r101_10, r101_11, r101_14, r101_15, r101_16, r101_19, r101_20, h1, h2, oGF_is, WPo_some, List.getElem?_cons_succ, List.getElem?_cons_zero, kil_n, kil_i, kil_a, kil_u, kil_l, Option.toList_some, Option.toList_none, List.cons_append, List.nil_append, List.set_cons_succ, List.set_cons_zero, addm1, Nat.reduceAdd, List.length_cons, List.length_nil, Nat.reduceLT, not_true_eq_false, not_false_eq_true, if_true, if_false, or_self, and_self, true_and, and_true, or_true, true_or, false_or, or_false, false_and, and_false]
theorem c_printNo (hO : XO E ah A) {x : Int64} (hp : pn < 40) : EV E (c + 1) 108 [.ref (A 16), .long x] (oh E ah A (mst A S (P, R, pn, up, at', cr) al ac dn)) none (oh E ah A (mst A S (P, vp_updL R pn x, pn + 1, up, at' + 1, cr + 1) al ac dn)) := by
  refine e108 ?_
  have k := c_goOn (E := E) (c := c) (S := S) (P := P) (R := vp_updL R pn x) (pn := pn + 1) (up := up) (at' := at') (cr := cr) (al := al) (ac := ac) (dn := dn) hO (x := 1)
  simp (disch := first | assumption | omega | decide | (simp only [List.length_cons, List.length_nil, Nat.reduceAdd, Nat.reduceLT]; done) | fail) only [r108_0, r108_1, r108_4, r108_6, r108_9, r108_10, r108_11, r108_14, r108_15, r108_16, r108_19, r108_20, r108_23, r108_24, r108_25, r108_26, r108_26i, r108_27, r108_30, r108_31, r108_32, r108_35, r108_36, r108_40, hl16 hO, hl18 hO, sl18 hO, sl16 hO, pL, pf_7020, q108_37 k (ml_ci hO), oGF_is, WPo_some, List.getElem?_cons_succ, List.getElem?_cons_zero, kil_n, kil_i, kil_a, kil_u, kil_l, Option.toList_some, Option.toList_none, List.cons_append, List.nil_append, List.set_cons_succ, List.set_cons_zero, addm1, Nat.reduceAdd, List.length_cons, List.length_nil, Nat.reduceLT, nI_clamp, nI_toInt, nI_leL, nI_Lle, nI_ltL, nI_Llt, nI_eqL, nI_Leq, nI_leE, nI_ltE, nI_eqE, nI_eqM, nI_add, nI_addL, nI_Ladd, nI_mulL, nI_Lmul, pk_mul, pk_sub, nI_subL, nI_Lsub, i2l_nI, Int.toNat_natCast, Nat.not_lt_zero, Nat.zero_le, ifT, ifF, not_true_eq_false, not_false_eq_true, if_true, if_false, or_self, and_self, true_and, and_true, or_true, true_or, false_or, or_false, false_and, and_false]
theorem c_printAl (hO : XO E ah A) {x : Int64} : EV E (c + 1) 108 [.ref (A 16), .long x] (oh E ah A (mst A S (P, R, 40, up, at', cr) al ac dn)) none (oh E ah A (mst A S (P, R, 40, up, at', cr) 3 ac dn)) := by
  refine e108 ?_
  have s3 := sl16 (E := E) (S := S) (P := P) (R := R) (pn := 40) (up := up) (at' := at') (cr := cr) (al := al) (ac := ac) (dn := dn) (pn' := 40) (up' := up) (at2 := at') (cr' := cr) (al' := 3) (ac' := ac) (dn' := dn) hO
  rw [show nI 3 = (3 : Int32) from rfl] at s3
  simp (disch := first | assumption | omega | decide | (simp only [List.length_cons, List.length_nil, Nat.reduceAdd, Nat.reduceLT]; done) | fail) only [r108_0, r108_1, r108_4, r108_6, r108_9, r108_10, r108_11, r108_14, r108_15, r108_16, r108_19, r108_20, r108_23, r108_24, r108_25, r108_26, r108_26i, r108_27, r108_30, r108_31, r108_32, r108_35, r108_36, r108_40, hl16 hO, s3, pf_7070, oGF_is, WPo_some, List.getElem?_cons_succ, List.getElem?_cons_zero, kil_n, kil_i, kil_a, kil_u, kil_l, Option.toList_some, Option.toList_none, List.cons_append, List.nil_append, List.set_cons_succ, List.set_cons_zero, addm1, Nat.reduceAdd, List.length_cons, List.length_nil, Nat.reduceLT, nI_clamp, nI_toInt, nI_leL, nI_Lle, nI_ltL, nI_Llt, nI_eqL, nI_Leq, nI_leE, nI_ltE, nI_eqE, nI_eqM, nI_add, nI_addL, nI_Ladd, nI_mulL, nI_Lmul, pk_mul, pk_sub, nI_subL, nI_Lsub, i2l_nI, Int.toNat_natCast, Nat.not_lt_zero, Nat.zero_le, ifT, ifF, not_true_eq_false, not_false_eq_true, if_true, if_false, or_self, and_self, true_and, and_true, or_true, true_or, false_or, or_false, false_and, and_false]
theorem c_conclude (hO : XO E ah A) (hb : 61 ≤ b ∧ b ≤ 67) (hH : dkH A S b kd wn nm ls wl cn) (hc : cn ≤ 40) (hat : at' < cn) {d : Nat} (hd : d < 20) (hn : nm (4 * at' + 2) = nI d) {r : Int64} {x : Int32} (hr : ¬ 999999999999 < r.toInt.natAbs) : EV E (c + 2) 112 [.ref (A 16), .ref (A b), .long r, .int x] (oh E ah A (mst A S (P, R, pn, up, at', cr) al ac dn)) none (oh E ah A (mst A S (vp_updL P d r, R, pn, decide (r < 0), at' + 1, cr + x) al ac dn)) := by
  refine e112 ?_
  have hr' := hr
  rw [← big_gt] at hr'
  have h1 : ¬ 999999999999 < r := fun z => hr' (Or.inl z)
  have h2 : ¬ r < -999999999999 := fun z => hr' (Or.inr z)
  have h2' : -999999999999 ≤ r := by simp only [i64_lt, i64_le, i2l_toInt, Int64.reduceToInt] at h2 ⊢; omega
  have hH1 := dkH_ml (al := al) (ac := ac) (dn := dn) hb (st := (P, R, pn, up, at', cr)) hH
  have k2 := c_numOf (E := E) (c := c) hO hb hH1 hc hat (j := 2) (by decide)
  rw [hn, show nI 2 = (2 : Int32) from rfl] at k2
  have kl := c_layM (E := E) (c := c + 1) (S := S) (P := P) (R := R) (pn := pn) (up := up) (at' := at') (cr := cr) (al := al) (ac := ac) (dn := dn) hO hd (x := r)
  have kg := fun u => c_goOn (E := E) (c := c + 1) (S := S) (P := vp_updL P d r) (R := R) (pn := pn) (up := u) (at' := at') (cr := cr) (al := al) (ac := ac) (dn := dn) hO (x := x)
  have sl := fun u => sl16 (E := E) (S := S) (P := vp_updL P d r) (R := R) (pn := pn) (up := up) (at' := at') (cr := cr) (al := al) (ac := ac) (dn := dn) (pn' := pn) (up' := u) (at2 := at') (cr' := cr) (al' := al) (ac' := ac) (dn' := dn) hO
  by_cases y : r < 0
  · have y' : ¬ 0 ≤ r := by simp only [i64_lt, i64_le, i2l_toInt, Int64.reduceToInt] at y ⊢; omega
    have s1 := sl true
    have k1 := kg true
    rw [show decide (r < 0) = true from decide_eq_true y]
    simp only [bI, if_true] at s1
    simp (disch := first | assumption | omega | decide | (simp only [List.length_cons, List.length_nil, Nat.reduceAdd, Nat.reduceLT]; done) | fail) only [r112_0, r112_1, r112_4, r112_5, r112_8, r112_9, r112_12, r112_13, r112_16, r112_17, r112_18, r112_21, r112_22, r112_23, r112_23n, r112_24, r112_25, r112_28, r112_32, r112_36, r112_37, r112_38, r112_39, r112_40, r112_43, r112_44, r112_47, r112_48, r112_51, r112_52, r112_57, lg_cmp_gt, lg_cmp_ge, h1, h2', y', hl16 hO, s1, q112_29 k2 (dkH_ci hO hb hH1), q112_33 kl (ml_ci hO), q112_54 k1 (ml_ci hO), pf_7043, oGF_is, WPo_some, List.getElem?_cons_succ, List.getElem?_cons_zero, kil_n, kil_i, kil_a, kil_u, kil_l, Option.toList_some, Option.toList_none, List.cons_append, List.nil_append, List.set_cons_succ, List.set_cons_zero, addm1, Nat.reduceAdd, List.length_cons, List.length_nil, Nat.reduceLT, nI_clamp, nI_toInt, nI_leL, nI_Lle, nI_ltL, nI_Llt, nI_eqL, nI_Leq, nI_leE, nI_ltE, nI_eqE, nI_eqM, nI_add, nI_addL, nI_Ladd, nI_mulL, nI_Lmul, pk_mul, pk_sub, nI_subL, nI_Lsub, i2l_nI, Int.toNat_natCast, Nat.not_lt_zero, Nat.zero_le, ifT, ifF, not_true_eq_false, not_false_eq_true, if_true, if_false, or_self, and_self, true_and, and_true, or_true, true_or, false_or, or_false, false_and, and_false]
  · have y' : 0 ≤ r := by simp only [i64_lt, i64_le, i2l_toInt, Int64.reduceToInt] at y ⊢; omega
    have s1 := sl false
    have k1 := kg false
    rw [show decide (r < 0) = false from decide_eq_false y]
    simp only [bI, Bool.false_eq_true, if_false] at s1
    simp (disch := first | assumption | omega | decide | (simp only [List.length_cons, List.length_nil, Nat.reduceAdd, Nat.reduceLT]; done) | fail) only [r112_0, r112_1, r112_4, r112_5, r112_8, r112_9, r112_12, r112_13, r112_16, r112_17, r112_18, r112_21, r112_22, r112_23, r112_23n, r112_24, r112_25, r112_28, r112_32, r112_36, r112_37, r112_38, r112_39, r112_40, r112_43, r112_44, r112_47, r112_48, r112_51, r112_52, r112_57, lg_cmp_gt, lg_cmp_ge, h1, h2', y', hl16 hO, s1, q112_29 k2 (dkH_ci hO hb hH1), q112_33 kl (ml_ci hO), q112_54 k1 (ml_ci hO), pf_7043, oGF_is, WPo_some, List.getElem?_cons_succ, List.getElem?_cons_zero, kil_n, kil_i, kil_a, kil_u, kil_l, Option.toList_some, Option.toList_none, List.cons_append, List.nil_append, List.set_cons_succ, List.set_cons_zero, addm1, Nat.reduceAdd, List.length_cons, List.length_nil, Nat.reduceLT, nI_clamp, nI_toInt, nI_leL, nI_Lle, nI_ltL, nI_Llt, nI_eqL, nI_Leq, nI_leE, nI_ltE, nI_eqE, nI_eqM, nI_add, nI_addL, nI_Ladd, nI_mulL, nI_Lmul, pk_mul, pk_sub, nI_subL, nI_Lsub, i2l_nI, Int.toNat_natCast, Nat.not_lt_zero, Nat.zero_le, ifT, ifF, not_true_eq_false, not_false_eq_true, if_true, if_false, or_self, and_self, true_and, and_true, or_true, true_or, false_or, or_false, false_and, and_false]
theorem c_concludeAl (hO : XO E ah A) {p1 : Nat} {r : Int64} {x : Int32} (hr : 999999999999 < r.toInt.natAbs) : EV E (c + 2) 112 [.ref (A 16), .ref p1, .long r, .int x] (oh E ah A (mst A S (P, R, pn, up, at', cr) al ac dn)) none (oh E ah A (mst A S (P, R, pn, up, at', cr) 1 ac dn)) := by
  refine e112 ?_
  have s3 := sl16 (E := E) (S := S) (P := P) (R := R) (pn := pn) (up := up) (at' := at') (cr := cr) (al := al) (ac := ac) (dn := dn) (pn' := pn) (up' := up) (at2 := at') (cr' := cr) (al' := 1) (ac' := ac) (dn' := dn) hO
  rw [show nI 1 = (1 : Int32) from rfl] at s3
  rw [← big_gt] at hr
  by_cases h1 : 999999999999 < r
  · simp (disch := first | assumption | omega | decide | (simp only [List.length_cons, List.length_nil, Nat.reduceAdd, Nat.reduceLT]; done) | fail) only [r112_0, r112_1, r112_4, r112_5, r112_8, r112_9, r112_12, r112_13, r112_16, r112_17, r112_18, r112_21, r112_22, r112_23, r112_23n, r112_24, r112_25, r112_28, r112_32, r112_36, r112_37, r112_38, r112_39, r112_40, r112_43, r112_44, r112_47, r112_48, r112_51, r112_52, r112_57, lg_cmp_gt, lg_cmp_ge, h1, hl16 hO, s3, pf_7070, oGF_is, WPo_some, List.getElem?_cons_succ, List.getElem?_cons_zero, kil_n, kil_i, kil_a, kil_u, kil_l, Option.toList_some, Option.toList_none, List.cons_append, List.nil_append, List.set_cons_succ, List.set_cons_zero, addm1, Nat.reduceAdd, List.length_cons, List.length_nil, Nat.reduceLT, nI_clamp, nI_toInt, nI_leL, nI_Lle, nI_ltL, nI_Llt, nI_eqL, nI_Leq, nI_leE, nI_ltE, nI_eqE, nI_eqM, nI_add, nI_addL, nI_Ladd, nI_mulL, nI_Lmul, pk_mul, pk_sub, nI_subL, nI_Lsub, i2l_nI, Int.toNat_natCast, Nat.not_lt_zero, Nat.zero_le, ifT, ifF, not_true_eq_false, not_false_eq_true, if_true, if_false, or_self, and_self, true_and, and_true, or_true, true_or, false_or, or_false, false_and, and_false]
  · have h2 : r < -999999999999 := by rcases hr with hr | hr; exact absurd hr h1; exact hr
    have h2' : ¬ -999999999999 ≤ r := by simp only [i64_lt, i64_le, i2l_toInt, Int64.reduceToInt] at h2 ⊢; omega
    simp (disch := first | assumption | omega | decide | (simp only [List.length_cons, List.length_nil, Nat.reduceAdd, Nat.reduceLT]; done) | fail) only [r112_0, r112_1, r112_4, r112_5, r112_8, r112_9, r112_12, r112_13, r112_16, r112_17, r112_18, r112_21, r112_22, r112_23, r112_23n, r112_24, r112_25, r112_28, r112_32, r112_36, r112_37, r112_38, r112_39, r112_40, r112_43, r112_44, r112_47, r112_48, r112_51, r112_52, r112_57, lg_cmp_gt, lg_cmp_ge, h1, h2', hl16 hO, s3, pf_7070, oGF_is, WPo_some, List.getElem?_cons_succ, List.getElem?_cons_zero, kil_n, kil_i, kil_a, kil_u, kil_l, Option.toList_some, Option.toList_none, List.cons_append, List.nil_append, List.set_cons_succ, List.set_cons_zero, addm1, Nat.reduceAdd, List.length_cons, List.length_nil, Nat.reduceLT, nI_clamp, nI_toInt, nI_leL, nI_Lle, nI_ltL, nI_Llt, nI_eqL, nI_Leq, nI_leE, nI_ltE, nI_eqE, nI_eqM, nI_add, nI_addL, nI_Ladd, nI_mulL, nI_Lmul, pk_mul, pk_sub, nI_subL, nI_Lsub, i2l_nI, Int.toNat_natCast, Nat.not_lt_zero, Nat.zero_le, ifT, ifF, not_true_eq_false, not_false_eq_true, if_true, if_false, or_self, and_self, true_and, and_true, or_true, true_or, false_or, or_false, false_and, and_false]
end MLC

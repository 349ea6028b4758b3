/-! Errata of the class: the call -/
noncomputable def tV (t : Nat → Int64) : Nat → Nat := fun i => (t i).toInt.toNat
noncomputable def ecSt (sr : Nat → Int32) (mn : Nat → Nat) (tn : Nat → Nat → Int64) (tray n k b : Int32) : Int32 := if ¬ (0 ≤ tray.toInt ∧ tray.toInt ≤ 3) then 1 else if sr tray.toInt.toNat = -1 then 3 else if ¬ ((3 ≤ n.toInt ∧ n.toInt ≤ 20) ∧ (1 ≤ k.toInt ∧ k.toInt ≤ 4) ∧ k.toInt < n.toInt ∧ 0 ≤ b.toInt ∧ b.toInt ≤ 1000) then 5 else if mn tray.toInt.toNat < n.toInt then 4 else if ¬ (∀ j, j < n.toInt.toNat → 0 ≤ tn tray.toInt.toNat j ∧ tn tray.toInt.toNat j ≤ 99999999) then 5 else 0
section EXc
variable {E : aEnv} {c : Nat} {ah : aHp} {A : Nat → Nat} {S : Nat → aE} {fn : Int32} {lo hi : Int64} {vl oc wi sh : Nat → Int32} {dl : Nat → Int64} {OP : Nat → Nat → Int32} {n k b : Nat} {sr : Nat → Int32} {mn : Nat → Nat} {tn : Nat → Nat → Int64}
theorem ecSt_i {j : Nat} (hj : j < 4) {n k b : Int32} : ecSt sr mn tn (nI j) n k b = if sr j = -1 then 3 else if ¬ ((3 ≤ n.toInt ∧ n.toInt ≤ 20) ∧ (1 ≤ k.toInt ∧ k.toInt ≤ 4) ∧ k.toInt < n.toInt ∧ 0 ≤ b.toInt ∧ b.toInt ≤ 1000) then 5 else if mn j < n.toInt then 4 else if ¬ (∀ q, q < n.toInt.toNat → 0 ≤ tn j q ∧ tn j q ≤ 99999999) then 5 else 0 := by
  unfold ecSt
  simp only [nI_toInt (show j < 2 ^ 31 by omega), Int.toNat_natCast]
  rw [if_neg (by omega)]
theorem c_errataSt (hO : XO E ah A) (ht : trS A S sr mn tn) {j : Nat} (hj : j < 4) {n k b : Int32} : EV E (c + 3) 193 [.ref (A (73 + 2 * j)), .int n, .int k, .int b] (oh E ah A S) (some (.int (ecSt sr mn tn (nI j) n k b))) (oh E ah A S) := by
  refine e193 ?_
  have hT1 := ht.TR hO hj
  have hm := hT1.2.2
  rw [ecSt_i hj]
  by_cases h1 : sr j = -1
  · simp (disch := first | assumption | omega | decide | (simp only [List.length_cons, List.length_nil, Nat.reduceAdd, Nat.reduceLT]; done) | fail) only [r193_0, r193_0n, r193_4, r193_6, r193_8, r193_11, r193_13, r193_14, r193_15, r193_16, r193_19, r193_20, r193_21, r193_24, r193_25, r193_26, r193_29, r193_30, r193_33, r193_34, r193_36, r193_37, r193_38, r193_41, r193_42, r193_44, r193_47, r193_49, r193_52, r193_53, r193_56, r193_57, r193_60, r193_63, r193_64, r193_65, r193_65n, r193_69, r193_70, r193_73, r193_74, r193_75, r193_75n, r193_76, r193_77, r193_78, r193_84, r193_87, r193_88, r193_91, r193_92, q193_1 (c_filled hT1), oGF_is, WPo_some, List.getElem?_cons_succ, List.getElem?_cons_zero, kil_n, kil_i, kil_a, kil_u, kil_l, Option.toList_some, Option.toList_none, List.cons_append, List.nil_append, List.set_cons_succ, List.set_cons_zero, addm1, Nat.reduceAdd, List.length_cons, List.length_nil, Nat.reduceLT, h1, not_true_eq_false, not_false_eq_true, if_true, if_false, or_self, and_self, true_and, and_true, or_true, true_or, false_or, or_false, false_and, and_false, show ¬ (3 : Int32) = 0 by decide]
  · by_cases h2 : (3 ≤ n.toInt ∧ n.toInt ≤ 20) ∧ (1 ≤ k.toInt ∧ k.toInt ≤ 4) ∧ k.toInt < n.toInt ∧ 0 ≤ b.toInt ∧ b.toInt ≤ 1000
    · have a1 : ¬ k < 1 := by simp only [i32_lt, i32_le, i64_lt, i64_le, i2l_toInt, Int32.reduceToInt, Int64.reduceToInt]; omega
      have a2 : ¬ 4 < k := by simp only [i32_lt, i32_le, i64_lt, i64_le, i2l_toInt, Int32.reduceToInt, Int64.reduceToInt]; omega
      have a3 : ¬ b < 0 := by simp only [i32_lt, i32_le, i64_lt, i64_le, i2l_toInt, Int32.reduceToInt, Int64.reduceToInt]; omega
      have a4 : b ≤ 1000 := by simp only [i32_lt, i32_le, i64_lt, i64_le, i2l_toInt, Int32.reduceToInt, Int64.reduceToInt]; omega
      obtain ⟨q, hq, rfl⟩ := i32_nat (x := n) (n := 21) (by omega) (by omega)
      have eq := nI_toInt (show q < 2 ^ 31 by omega)
      rw [eq] at h2
      have a5 : ¬ nI q ≤ k := by simp only [i32_lt, i32_le, i64_lt, i64_le, i2l_toInt, Int32.reduceToInt, Int64.reduceToInt, eq]; omega
      by_cases h3 : mn j < q
      · simp (disch := first | assumption | omega | decide | (simp only [List.length_cons, List.length_nil, Nat.reduceAdd, Nat.reduceLT]; done) | fail) only [r193_0, r193_0n, r193_4, r193_6, r193_8, r193_11, r193_13, r193_14, r193_15, r193_16, r193_19, r193_20, r193_21, r193_24, r193_25, r193_26, r193_29, r193_30, r193_33, r193_34, r193_36, r193_37, r193_38, r193_41, r193_42, r193_44, r193_47, r193_49, r193_52, r193_53, r193_56, r193_57, r193_60, r193_63, r193_64, r193_65, r193_65n, r193_69, r193_70, r193_73, r193_74, r193_75, r193_75n, r193_76, r193_77, r193_78, r193_84, r193_87, r193_88, r193_91, r193_92, q193_1 (c_filled hT1), q193_66 (c_length hT1) hT1.ci, oGF_is, WPo_some, List.getElem?_cons_succ, List.getElem?_cons_zero, kil_n, kil_i, kil_a, kil_u, kil_l, Option.toList_some, Option.toList_none, List.cons_append, List.nil_append, List.set_cons_succ, List.set_cons_zero, addm1, Nat.reduceAdd, List.length_cons, List.length_nil, Nat.reduceLT, h1, h2, h3, a1, a2, a3, a4, a5, eq, not_true_eq_false, not_false_eq_true, if_true, if_false, or_self, and_self, true_and, and_true, or_true, true_or, false_or, or_false, false_and, and_false, nI_clamp, nI_toInt, nI_leL, nI_Lle, nI_ltL, nI_Llt, nI_eqL, nI_Leq, nI_leE, nI_ltE, nI_eqE, nI_eqM, nI_add, nI_addL, nI_Ladd, nI_mulL, nI_Lmul, pk_mul, pk_sub, nI_subL, nI_Lsub, i2l_nI, Int.toNat_natCast, Nat.not_lt_zero, Nat.zero_le, ifT, ifF, show (mn j : Int) < (q : Int) by omega, show ¬ (1 : Int32) = 0 by decide]
      · have e1 := c_allWithin (c := c) hT1 (n := q) (lo := 0) (hi := 99999999) (by omega)
        by_cases h5 : ∀ x, x < q → 0 ≤ tn j x ∧ tn j x ≤ 99999999
        · have h5 := eq_true h5
          simp (disch := first | assumption | omega | decide | (simp only [List.length_cons, List.length_nil, Nat.reduceAdd, Nat.reduceLT]; done) | fail) only [r193_0, r193_0n, r193_4, r193_6, r193_8, r193_11, r193_13, r193_14, r193_15, r193_16, r193_19, r193_20, r193_21, r193_24, r193_25, r193_26, r193_29, r193_30, r193_33, r193_34, r193_36, r193_37, r193_38, r193_41, r193_42, r193_44, r193_47, r193_49, r193_52, r193_53, r193_56, r193_57, r193_60, r193_63, r193_64, r193_65, r193_65n, r193_69, r193_70, r193_73, r193_74, r193_75, r193_75n, r193_76, r193_77, r193_78, r193_84, r193_87, r193_88, r193_91, r193_92, q193_1 (c_filled hT1), q193_66 (c_length hT1) hT1.ci, q193_81 e1 hT1.ci, oGF_is, WPo_some, List.getElem?_cons_succ, List.getElem?_cons_zero, kil_n, kil_i, kil_a, kil_u, kil_l, Option.toList_some, Option.toList_none, List.cons_append, List.nil_append, List.set_cons_succ, List.set_cons_zero, addm1, Nat.reduceAdd, List.length_cons, List.length_nil, Nat.reduceLT, h1, h2, h3, h5, a1, a2, a3, a4, a5, eq, b2i_eq0, not_true_eq_false, not_false_eq_true, if_true, if_false, or_self, and_self, true_and, and_true, or_true, true_or, false_or, or_false, false_and, and_false, nI_clamp, nI_toInt, nI_leL, nI_Lle, nI_ltL, nI_Llt, nI_eqL, nI_Leq, nI_leE, nI_ltE, nI_eqE, nI_eqM, nI_add, nI_addL, nI_Ladd, nI_mulL, nI_Lmul, pk_mul, pk_sub, nI_subL, nI_Lsub, i2l_nI, Int.toNat_natCast, Nat.not_lt_zero, Nat.zero_le, ifT, ifF, Int.toNat_natCast, show ¬ (mn j : Int) < (q : Int) by omega, show ¬ (1 : Int32) = 0 by decide]
        · simp (disch := first | assumption | omega | decide | (simp only [List.length_cons, List.length_nil, Nat.reduceAdd, Nat.reduceLT]; done) | fail) only [r193_0, r193_0n, r193_4, r193_6, r193_8, r193_11, r193_13, r193_14, r193_15, r193_16, r193_19, r193_20, r193_21, r193_24, r193_25, r193_26, r193_29, r193_30, r193_33, r193_34, r193_36, r193_37, r193_38, r193_41, r193_42, r193_44, r193_47, r193_49, r193_52, r193_53, r193_56, r193_57, r193_60, r193_63, r193_64, r193_65, r193_65n, r193_69, r193_70, r193_73, r193_74, r193_75, r193_75n, r193_76, r193_77, r193_78, r193_84, r193_87, r193_88, r193_91, r193_92, q193_1 (c_filled hT1), q193_66 (c_length hT1) hT1.ci, q193_81 e1 hT1.ci, oGF_is, WPo_some, List.getElem?_cons_succ, List.getElem?_cons_zero, kil_n, kil_i, kil_a, kil_u, kil_l, Option.toList_some, Option.toList_none, List.cons_append, List.nil_append, List.set_cons_succ, List.set_cons_zero, addm1, Nat.reduceAdd, List.length_cons, List.length_nil, Nat.reduceLT, h1, h2, h3, h5, a1, a2, a3, a4, a5, eq, b2i_eq0, not_true_eq_false, not_false_eq_true, if_true, if_false, or_self, and_self, true_and, and_true, or_true, true_or, false_or, or_false, false_and, and_false, nI_clamp, nI_toInt, nI_leL, nI_Lle, nI_ltL, nI_Llt, nI_eqL, nI_Leq, nI_leE, nI_ltE, nI_eqE, nI_eqM, nI_add, nI_addL, nI_Ladd, nI_mulL, nI_Lmul, pk_mul, pk_sub, nI_subL, nI_Lsub, i2l_nI, Int.toNat_natCast, Nat.not_lt_zero, Nat.zero_le, ifT, ifF, Int.toNat_natCast, show ¬ (mn j : Int) < (q : Int) by omega, show ¬ (1 : Int32) = 0 by decide]
    · rw [if_neg h1, if_pos h2]
      simp (disch := first | assumption | omega | decide | (simp only [List.length_cons, List.length_nil, Nat.reduceAdd, Nat.reduceLT]; done) | fail) only [r193_0, r193_0n, r193_4, r193_6, r193_8, r193_11, r193_13, r193_14, r193_15, r193_16, r193_19, r193_20, r193_21, r193_24, r193_25, r193_26, r193_29, r193_30, r193_33, r193_34, r193_36, r193_37, r193_38, r193_41, r193_42, r193_44, r193_47, r193_49, r193_52, r193_53, r193_56, r193_57, r193_60, r193_63, r193_64, q193_1 (c_filled hT1), oGF_is, WPo_some, List.getElem?_cons_succ, List.getElem?_cons_zero, kil_n, kil_i, kil_a, kil_u, kil_l, Option.toList_some, Option.toList_none, List.cons_append, List.nil_append, List.set_cons_succ, List.set_cons_zero, addm1, Nat.reduceAdd, List.length_cons, List.length_nil, Nat.reduceLT, h1, not_true_eq_false, not_false_eq_true, if_true, if_false, or_self, and_self, true_and, and_true, or_true, true_or, false_or, or_false, false_and, and_false]
      simp only [i32_lt, i32_le, i64_lt, i64_le, i2l_toInt, Int32.reduceToInt, Int64.reduceToInt]
      have z1 : ¬ (1 : Int) = 0 := by decide
      repeat' split
      all_goals first | exact trivial | exact ⟨rfl, rfl⟩ | (exfalso; omega) | (exfalso; simp_all; done) | (simp_all; done)
theorem tV_i {t : Nat → Int64} {i : Nat} (h : 0 ≤ t i ∧ t i ≤ 99999999) : (t i).toInt32 = nI (tV t i) ∧ tV t i ≤ 99999999 ∧ ((tV t i : Nat) : Int) = (t i).toInt := by
  simp only [i64_lt, i64_le, i2l_toInt, Int64.reduceToInt] at h
  have ev := lN_back (v := t i) (by omega)
  unfold tV
  refine ⟨?_, by omega, by omega⟩
  have := lN_i (n := (t i).toInt.toNat)
  rw [← ev] at this
  exact this
theorem c_fewest (hO : XO E ah A) (hE : ErE E) (ht : trS A S sr mn tn) {j : Nat} (hj : j < 4) (h1 : 1 ≤ k) (h4 : k ≤ 4) (hn : n ≤ 20) (hkn : k < n) (hb : b ≤ 1000) (hm : n ≤ mn j) (hr : ∀ q, q < n → 0 ≤ tn j q ∧ tn j q ≤ 99999999) {mn' od bd : Int32} : ∃ r fn' lo' hi' vl' oc' wi' sh' dl' OP', EV E (c + 5) 57 [.ref (A 19), .ref (A (73 + 2 * j)), .int (nI n), .int (nI k), .int (nI b)] (oh E ah A (eS A S fn mn' od bd lo hi vl oc wi sh dl OP)) (some (.int r)) (oh E ah A (eS A S fn' (nI n) (nI k) (nI b) lo' hi' vl' oc' wi' sh' dl' OP')) ∧ erA n k b (tV (tn j)) fn wi sh r fn' wi' sh' := by
  let V := tV (tn j)
  obtain ⟨vl1, hvl1⟩ : ∃ x, ovr vl 0 n (fun i => nI (V i)) = x := ⟨_, rfl⟩
  obtain ⟨dl1, hdl1⟩ : ∃ x, ovr dl 0 (n - k) (fun t => iL (df k (fun i => (V i : Int)) t)) = x := ⟨_, rfl⟩
  have hV : ∀ i, i < n → vl1 i = nI (V i) ∧ V i ≤ 99999999 := fun i hi => ⟨by rw [← hvl1]; exact ovr0_in hi, (tV_i (hr i hi)).2.1⟩
  let Q : Option Value → aHp → Prop := fun r1 y => ∃ r fn' lo' hi' vl' oc' wi' sh' dl' OP', r1 = some (.int r) ∧ y = oh E ah A (eS A S fn' (nI n) (nI k) (nI b) lo' hi' vl' oc' wi' sh' dl' OP') ∧ erA n k b V fn wi sh r fn' wi' sh'
  have kd := c_findDiff (E := E) (c := c + 3) (S := S) (fn := fn) (lo := lo) (hi := hi) (oc := oc) (wi := wi) (sh := sh) (dl := dl) (OP := OP) (b := b) (vl := vl1) hO hE h1 h4 hn hV hkn
  rw [hdl1] at kd
  have hF : ∀ t, t + k < n → dl1 t = iL (df k (vI V) t) ∧ (df k (vI V) t).natAbs ≤ 1600000000 := fun t ht => ⟨by rw [← hdl1]; exact ovr0_in (by omega), df_bd h1 h4 (fun i hi => by
    have := (hV (t + i) (by omega)).2
    show 0 ≤ (V (t + i) : Int) ∧ (V (t + i) : Int) ≤ 99999999
    omega)⟩
  obtain ⟨r0, k0, hr0⟩ := c_rough (E := E) (c := c + 3) (S := S) (fn := fn) (lo := lo) (hi := hi) (vl := vl1) (oc := oc) (wi := wi) (sh := sh) (OP := OP) (dl := dl1) hO hE h1 h4 hn hb hF (o1 := none) (o2 := none) (fun j hj => nomatch hj) (fun j hj => nomatch hj)
  rw [show onI none = (-1 : Int32) from rfl] at k0
  -- after the options are listed
  have fin : ¬ smo n k b (vI V) → ∀ oc' OP' l5, erL n k V vl1 oc' dl1 OP' → WP E (c + 5) 57 105 [some (.ref (A 19)), some (.ref (A (73 + 2 * j))), some (.int (nI n)), some (.int (nI k)), some (.int (nI b)), l5] [] (oh E ah A (eS A S fn (nI n) (nI k) (nI b) lo hi vl1 oc' wi sh dl1 OP')) Q := by
    intro hns oc' OP' l5 hL
    obtain ⟨r, fn', L, H, wi', sh', kp, hp⟩ := c_putOne (E := E) (c := c + 1) (S := S) (fn := fn) (lo := lo) (hi := hi) (wi := wi) (sh := sh) hO hE h1 h4 hn hkn hb hL
    rcases hp with ⟨p1, p2, i, x, p3, p4, p5⟩ | ⟨p1, p2, p3, p4, p5⟩
    · rw [p1, p2, p3, p4] at kp
      simp (disch := first | assumption | omega | decide | (simp only [List.length_cons, List.length_nil, Nat.reduceAdd, Nat.reduceLT]; done) | fail) only [r57_105, r57_109, r57_112, r57_113, q57_106 kp (er_ci hO), oGF_is, WPo_some, List.getElem?_cons_succ, List.getElem?_cons_zero, kil_n, kil_i, kil_a, kil_u, kil_l, Option.toList_some, Option.toList_none, List.cons_append, List.nil_append, List.set_cons_succ, List.set_cons_zero, addm1, Nat.reduceAdd, List.length_cons, List.length_nil, Nat.reduceLT, not_true_eq_false, not_false_eq_true, if_true, if_false, or_self, and_self, true_and, and_true, or_true, true_or, false_or, or_false, false_and, and_false, show ¬ (1 : Int32) = 0 by decide]
      exact ⟨1, 1, L, H, _, _, _, _, _, _, rfl, rfl, Or.inr (Or.inl ⟨rfl, hns, rfl, i, x, rfl, rfl, p5⟩)⟩
    · rw [p1, p2, p3, p4] at kp
      obtain ⟨r, fn'', L', H', wi'', sh'', kq, hq⟩ := c_putTwo (E := E) (c := c) (S := S) (fn := fn) (wi := wi) (sh := sh) (lo := L) (hi := H) hO hE h1 h4 hn hkn hb hL
      rcases hq with ⟨q1, q2, i, j, x, y, q3, q4, q5⟩ | ⟨q1, q2, q3, q4, q5⟩
      · rw [q1, q2, q3, q4] at kq
        simp (disch := first | assumption | omega | decide | (simp only [List.length_cons, List.length_nil, Nat.reduceAdd, Nat.reduceLT]; done) | fail) only [r57_105, r57_109, r57_112, r57_113, r57_114, r57_118, r57_121, r57_122, r57_125, r57_126, q57_106 kp (er_ci hO), q57_115 kq (er_ci hO), oGF_is, WPo_some, List.getElem?_cons_succ, List.getElem?_cons_zero, kil_n, kil_i, kil_a, kil_u, kil_l, Option.toList_some, Option.toList_none, List.cons_append, List.nil_append, List.set_cons_succ, List.set_cons_zero, addm1, Nat.reduceAdd, List.length_cons, List.length_nil, Nat.reduceLT, not_true_eq_false, not_false_eq_true, if_true, if_false, or_self, and_self, true_and, and_true, or_true, true_or, false_or, or_false, false_and, and_false, show ¬ (1 : Int32) = 0 by decide]
        exact ⟨2, 2, L', H', _, _, _, _, _, _, rfl, rfl, Or.inr (Or.inr (Or.inl ⟨rfl, hns, p5, rfl, i, j, x, y, rfl, rfl, q5⟩))⟩
      · rw [q1, q2, q3, q4] at kq
        simp (disch := first | assumption | omega | decide | (simp only [List.length_cons, List.length_nil, Nat.reduceAdd, Nat.reduceLT]; done) | fail) only [r57_105, r57_109, r57_112, r57_113, r57_114, r57_118, r57_121, r57_122, r57_125, r57_126, q57_106 kp (er_ci hO), q57_115 kq (er_ci hO), oGF_is, WPo_some, List.getElem?_cons_succ, List.getElem?_cons_zero, kil_n, kil_i, kil_a, kil_u, kil_l, Option.toList_some, Option.toList_none, List.cons_append, List.nil_append, List.set_cons_succ, List.set_cons_zero, addm1, Nat.reduceAdd, List.length_cons, List.length_nil, Nat.reduceLT, not_true_eq_false, not_false_eq_true, if_true, if_false, or_self, and_self, true_and, and_true, or_true, true_or, false_or, or_false, false_and, and_false]
        exact ⟨-1, _, L', H', _, _, _, _, _, _, rfl, rfl, Or.inr (Or.inr (Or.inr ⟨rfl, hns, p5, q5, rfl, rfl, rfl⟩))⟩
  have opts : ¬ smo n k b (vI V) → ∀ z i oc' OP', i + z = n → (∀ q, q < i → ∃ cc, oc' q = nI cc ∧ cc ≤ 79 ∧ srS (fun x => (OP' q x).toInt) cc (opN (V q))) → WP E (c + 5) 57 84 [some (.ref (A 19)), some (.ref (A (73 + 2 * j))), some (.int (nI n)), some (.int (nI k)), some (.int (nI b)), some (.int (nI i))] [] (oh E ah A (eS A S fn (nI n) (nI k) (nI b) lo hi vl1 oc' wi sh dl1 OP')) Q := by
    intro hns z
    induction z with
    | zero =>
      intro i oc' OP' hz hq
      have f := fin hns oc' OP' (some (.int (nI i))) ⟨hV, fun t ht => (hF t ht).1, fun q h => hq q (by omega)⟩
      rw [r57_84]
      simp (disch := first | assumption | omega | decide | (simp only [List.length_cons, List.length_nil, Nat.reduceAdd, Nat.reduceLT]; done) | fail) only [r57_86, r57_87, r57_90, hr19 hO, show n ≤ i by omega, oGF_is, WPo_some, List.getElem?_cons_succ, List.getElem?_cons_zero, kil_n, kil_i, kil_a, kil_u, kil_l, Option.toList_some, Option.toList_none, List.cons_append, List.nil_append, List.set_cons_succ, List.set_cons_zero, addm1, Nat.reduceAdd, List.length_cons, List.length_nil, Nat.reduceLT, nI_clamp, nI_toInt, nI_leL, nI_Lle, nI_ltL, nI_Llt, nI_eqL, nI_Leq, nI_leE, nI_ltE, nI_eqE, nI_eqM, nI_add, nI_addL, nI_Ladd, nI_mulL, nI_Lmul, pk_mul, pk_sub, nI_subL, nI_Lsub, i2l_nI, Int.toNat_natCast, Nat.not_lt_zero, Nat.zero_le, ifT, ifF, not_true_eq_false, not_false_eq_true, if_true, if_false, or_self, and_self, true_and, and_true, or_true, true_or, false_or, or_false, false_and, and_false]
      exact f
    | succ z ih =>
      intro i oc' OP' hz hq
      obtain ⟨oc2, OP2, cc, ko, o1, o2, o3, o4⟩ := c_listOptions (E := E) (c := c + 3) (S := S) (fn := fn) (mn := nI n) (od := nI k) (bd := nI b) (lo := lo) (hi := hi) (vl := vl1) (wi := wi) (sh := sh) (dl := dl1) (V := V) hO hE (i := i) (by omega) (hV i (by omega)).1 (hV i (by omega)).2 (oc := oc') (OP := OP')
      have ih := ih (i + 1) oc2 OP2 (by omega) (fun q h => by
        by_cases y : q = i
        · subst y
          exact ⟨cc, o1, o2, o3⟩
        · rw [(o4 q y).1, (o4 q y).2]
          exact hq q (by omega))
      rw [r57_84]
      simp (disch := first | assumption | omega | decide | (simp only [List.length_cons, List.length_nil, Nat.reduceAdd, Nat.reduceLT]; done) | fail) only [r57_86, r57_87, r57_90, r57_93, r57_94, r57_99, r57_102, hr19 hO, q57_96 ko (er_ci hO), oGF_is, WPo_some, List.getElem?_cons_succ, List.getElem?_cons_zero, kil_n, kil_i, kil_a, kil_u, kil_l, Option.toList_some, Option.toList_none, List.cons_append, List.nil_append, List.set_cons_succ, List.set_cons_zero, addm1, Nat.reduceAdd, List.length_cons, List.length_nil, Nat.reduceLT, nI_clamp, nI_toInt, nI_leL, nI_Lle, nI_ltL, nI_Llt, nI_eqL, nI_Leq, nI_leE, nI_ltE, nI_eqE, nI_eqM, nI_add, nI_addL, nI_Ladd, nI_mulL, nI_Lmul, pk_mul, pk_sub, nI_subL, nI_Lsub, i2l_nI, Int.toNat_natCast, Nat.not_lt_zero, Nat.zero_le, ifT, ifF, not_true_eq_false, not_false_eq_true, if_true, if_false, or_self, and_self, true_and, and_true, or_true, true_or, false_or, or_false, false_and, and_false]
      exact ih
  have l1 : ∀ z i, i + z = n → WP E (c + 5) 57 32 [some (.ref (A 19)), some (.ref (A (73 + 2 * j))), some (.int (nI n)), some (.int (nI k)), some (.int (nI b)), some (.int (nI i))] [] (oh E ah A (eS A S fn (nI n) (nI k) (nI b) lo hi (ovr vl 0 i (fun i => nI (V i))) oc wi sh dl OP)) Q := by
    intro z
    induction z with
    | zero =>
      intro i hz
      rw [show i = n by omega, hvl1, r57_32]
      rcases hr0 with ⟨e0, R⟩ | ⟨e0, R⟩
      · subst e0
        have o := opts (fun h => sm0.mp h R) n 0 oc OP (by omega) (fun q h => absurd h (by omega))
        simp (disch := first | assumption | omega | decide | (simp only [List.length_cons, List.length_nil, Nat.reduceAdd, Nat.reduceLT]; done) | fail) only [r57_34, r57_35, r57_38, r57_41, r57_42, r57_45, r57_47, r57_47n, r57_48, r57_53, r57_54, r57_55, r57_58, r57_61, r57_65, r57_66, r57_67, r57_71, r57_81, r57_82, hr19 hO, q57_62 kd (er_ci hO), q57_68 k0 (er_ci hO), oGF_is, WPo_some, List.getElem?_cons_succ, List.getElem?_cons_zero, kil_n, kil_i, kil_a, kil_u, kil_l, Option.toList_some, Option.toList_none, List.cons_append, List.nil_append, List.set_cons_succ, List.set_cons_zero, addm1, Nat.reduceAdd, List.length_cons, List.length_nil, Nat.reduceLT, nI_clamp, nI_toInt, nI_leL, nI_Lle, nI_ltL, nI_Llt, nI_eqL, nI_Leq, nI_leE, nI_ltE, nI_eqE, nI_eqM, nI_add, nI_addL, nI_Ladd, nI_mulL, nI_Lmul, pk_mul, pk_sub, nI_subL, nI_Lsub, i2l_nI, Int.toNat_natCast, Nat.not_lt_zero, Nat.zero_le, ifT, ifF, not_true_eq_false, not_false_eq_true, if_true, if_false, or_self, and_self, true_and, and_true, or_true, true_or, false_or, or_false, false_and, and_false, show ¬ (1 : Int32) = 0 by decide]
        exact o
      · subst e0
        simp (disch := first | assumption | omega | decide | (simp only [List.length_cons, List.length_nil, Nat.reduceAdd, Nat.reduceLT]; done) | fail) only [r57_34, r57_35, r57_38, r57_41, r57_42, r57_45, r57_47, r57_47n, r57_48, r57_53, r57_54, r57_55, r57_58, r57_61, r57_65, r57_66, r57_67, r57_71, r57_74, r57_75, r57_76, r57_79, r57_80, hr19 hO, sr19 hO, q57_62 kd (er_ci hO), q57_68 k0 (er_ci hO), pf_3060, oGF_is, WPo_some, List.getElem?_cons_succ, List.getElem?_cons_zero, kil_n, kil_i, kil_a, kil_u, kil_l, Option.toList_some, Option.toList_none, List.cons_append, List.nil_append, List.set_cons_succ, List.set_cons_zero, addm1, Nat.reduceAdd, List.length_cons, List.length_nil, Nat.reduceLT, nI_clamp, nI_toInt, nI_leL, nI_Lle, nI_ltL, nI_Llt, nI_eqL, nI_Leq, nI_leE, nI_ltE, nI_eqE, nI_eqM, nI_add, nI_addL, nI_Ladd, nI_mulL, nI_Lmul, pk_mul, pk_sub, nI_subL, nI_Lsub, i2l_nI, Int.toNat_natCast, Nat.not_lt_zero, Nat.zero_le, ifT, ifF, not_true_eq_false, not_false_eq_true, if_true, if_false, or_self, and_self, true_and, and_true, or_true, true_or, false_or, or_false, false_and, and_false]
        exact ⟨0, 0, lo, hi, _, _, _, _, _, _, rfl, rfl, Or.inl ⟨rfl, sm0.mpr R, rfl, rfl, rfl⟩⟩
    | succ z ih =>
      intro i hz
      have ih := ih (i + 1) (by omega)
      have hT1 := (ht.fr (S' := eS A S fn (nI n) (nI k) (nI b) lo hi (ovr vl 0 i (fun i => nI (V i))) oc wi sh dl OP) (fun q hq => eS_ne (by omega))).TR hO hj
      have m1 := upd_ovr0 (F := vl) (i := i) (h := fun i => nI (V i)) (x := nI (V i)) rfl
      have e5 : (tn j i).toInt32 = nI (V i) := (tV_i (hr i (by omega))).1
      rw [r57_32]
      simp (disch := first | assumption | omega | decide | (simp only [List.length_cons, List.length_nil, Nat.reduceAdd, Nat.reduceLT]; done) | fail) only [r57_34, r57_35, r57_38, r57_41, r57_42, r57_45, r57_47, r57_47n, r57_48, r57_53, r57_54, r57_55, r57_58, hr19 hO, hr20 hO, sr20 hO, pI, q57_50 (c_at hT1 (show i < mn j by omega)) hT1.ci, e5, m1, oGF_is, WPo_some, List.getElem?_cons_succ, List.getElem?_cons_zero, kil_n, kil_i, kil_a, kil_u, kil_l, Option.toList_some, Option.toList_none, List.cons_append, List.nil_append, List.set_cons_succ, List.set_cons_zero, addm1, Nat.reduceAdd, List.length_cons, List.length_nil, Nat.reduceLT, nI_clamp, nI_toInt, nI_leL, nI_Lle, nI_ltL, nI_Llt, nI_eqL, nI_Leq, nI_leE, nI_ltE, nI_eqE, nI_eqM, nI_add, nI_addL, nI_Ladd, nI_mulL, nI_Lmul, pk_mul, pk_sub, nI_subL, nI_Lsub, i2l_nI, Int.toNat_natCast, Nat.not_lt_zero, Nat.zero_le, ifT, ifF, not_true_eq_false, not_false_eq_true, if_true, if_false, or_self, and_self, true_and, and_true, or_true, true_or, false_or, or_false, false_and, and_false]
      exact ih
  obtain ⟨r1, x1, ⟨r, fn', lo', hi', vl', oc', wi', sh', dl', OP', e1, e2, e3⟩, w⟩ := WP.ex (l1 n 0 (by omega))
  subst e1 e2
  refine ⟨r, fn', lo', hi', vl', oc', wi', sh', dl', OP', e57 ?_, e3⟩
  rw [ovr_0] at w
  have km := c_minN (E := E) (c := c + 4) (ah := oh E ah A (eS A S fn mn' od bd lo hi vl oc wi sh dl OP)) (x := n) (y := 20) (by omega) (by decide)
  rw [show min n 20 = n by omega, show nI 20 = (20 : Int32) from rfl] at km
  have km2 := fun ah => c_minN (E := E) (c := c + 4) (ah := ah) (x := k) (y := 4) (by omega) (by decide)
  rw [show min k 4 = k by omega, show nI 4 = (4 : Int32) from rfl] at km2
  have ex : (if (0 : Int32) < nI k then nI k else 0) = nI k := if_pos (by rw [show (0 : Int32) = nI 0 from rfl, nI_ltE (by decide) (by omega)]; omega)
  have kx := fun ah => c_max (E := E) (c := c + 4) (ah := ah) (x := 0) (y := nI k)
  rw [ex] at kx
  simp (disch := first | assumption | omega | decide | (simp only [List.length_cons, List.length_nil, Nat.reduceAdd, Nat.reduceLT]; done) | fail) only [r57_0, r57_1, r57_2, r57_7, r57_10, r57_11, r57_12, r57_13, r57_20, r57_23, r57_24, r57_26, r57_29, r57_30, hr19 hO, sr19 hO, q57_4 km, q57_14 (km2 _), q57_17 (kx _), pf_3070, pf_3080, pf_3090, oGF_is, WPo_some, List.getElem?_cons_succ, List.getElem?_cons_zero, kil_n, kil_i, kil_a, kil_u, kil_l, Option.toList_some, Option.toList_none, List.cons_append, List.nil_append, List.set_cons_succ, List.set_cons_zero, addm1, Nat.reduceAdd, List.length_cons, List.length_nil, Nat.reduceLT, not_true_eq_false, not_false_eq_true, if_true, if_false, or_self, and_self, true_and, and_true, or_true, true_or, false_or, or_false, false_and, and_false]
  exact w
/-- the class' errata as they stand -/
noncomputable def erW (A : Nat → Nat) (S : Nat → aE) (fn : Nat) (wi sh : Nat → Int32) : Prop := fn ≤ 2 ∧ ∃ mn od bd lo hi vl oc dl OP, S = eS A S (nI fn) mn od bd lo hi vl oc wi sh dl OP
theorem x_errata_no (hO : XO E ah A) {tx sp : Nat} {hT eC tL st : Int32} (hX : S 0 = xO A tx sp hT eC tL st) (ht : trS A S sr mn tn) {tray n k b : Int32} (hs : ¬ ecSt sr mn tn tray n k b = 0) : EV E (c + 4) 171 [.ref (A 0), .int tray, .int n, .int k, .int b] (oh E ah A S) (some (.int (-1))) (oh E ah A (su S 0 (xO A tx sp hT eC tL (ecSt sr mn tn tray n k b)))) := by
  refine e171 ?_
  have hc := hO.c0 hX
  have hX' := hX
  by_cases h1 : 0 ≤ tray.toInt ∧ tray.toInt ≤ 3
  · obtain ⟨j, hj, rfl⟩ := i32_nat (n := 4) h1.1 (by omega)
    unfold xO at hX' ⊢
    simp (disch := first | assumption | omega | decide | (simp only [List.length_cons, List.length_nil, Nat.reduceAdd, Nat.reduceLT]; done) | fail) only [r171_0, r171_1, r171_5, r171_5n, r171_7, r171_8, r171_8n, r171_10, r171_11, r171_12, r171_17, r171_20, r171_21, r171_24, r171_27, r171_28, r171_29, r171_30, r171_33, r171_33n, r171_35, r171_36, r171_37, r171_42, r171_44, r171_46, r171_47, r171_50, r171_51, r171_53, r171_56, r171_58, q171_2 (c_trayAt hO hX ht hj) hc, q171_14 (c_errataSt hO ht hj), hs, hx_0 hO, hX', pf_10150, sx_0 hO, su_at, oGF_is, WPo_some, List.getElem?_cons_succ, List.getElem?_cons_zero, kil_n, kil_i, kil_a, kil_u, kil_l, Option.toList_some, Option.toList_none, List.cons_append, List.nil_append, List.set_cons_succ, List.set_cons_zero, addm1, Nat.reduceAdd, List.length_cons, List.length_nil, Nat.reduceLT, not_true_eq_false, not_false_eq_true, if_true, if_false, or_self, and_self, true_and, and_true, or_true, true_or, false_or, or_false, false_and, and_false]
  · have e1 : ecSt sr mn tn tray n k b = 1 := if_pos h1
    have e2 : EV E (c + 3) 193 [.null, .int n, .int k, .int b] (oh E ah A S) (some (.int 1)) (oh E ah A S) := by
      refine e193n0 ?_
      simp (disch := first | assumption | omega | decide | (simp only [List.length_cons, List.length_nil, Nat.reduceAdd, Nat.reduceLT]; done) | fail) only [r193_0, r193_0n, r193_4, r193_6, r193_8, r193_11, r193_13, r193_14, r193_15, r193_16, r193_19, r193_20, r193_21, r193_24, r193_25, r193_26, r193_29, r193_30, r193_33, r193_34, r193_36, r193_37, r193_38, r193_41, r193_42, r193_44, r193_47, r193_49, r193_52, r193_53, r193_56, r193_57, r193_60, r193_63, r193_64, r193_65, r193_65n, r193_69, r193_70, r193_73, r193_74, r193_75, r193_75n, r193_76, r193_77, r193_78, r193_84, r193_87, r193_88, r193_91, r193_92, q193_1n0 c_filled_no, oGF_is, WPo_some, List.getElem?_cons_succ, List.getElem?_cons_zero, kil_n, kil_i, kil_a, kil_u, kil_l, Option.toList_some, Option.toList_none, List.cons_append, List.nil_append, List.set_cons_succ, List.set_cons_zero, addm1, Nat.reduceAdd, List.length_cons, List.length_nil, Nat.reduceLT, not_true_eq_false, not_false_eq_true, if_true, if_false, or_self, and_self, true_and, and_true, or_true, true_or, false_or, or_false, false_and, and_false, show ¬ (1 : Int32) = 0 by decide]
    rw [e1]
    unfold xO at hX' ⊢
    simp (disch := first | assumption | omega | decide | (simp only [List.length_cons, List.length_nil, Nat.reduceAdd, Nat.reduceLT]; done) | fail) only [r171_0, r171_1, r171_5, r171_5n, r171_7, r171_8, r171_8n, r171_10, r171_11, r171_12, r171_17, r171_20, r171_21, r171_24, r171_27, r171_28, r171_29, r171_30, r171_33, r171_33n, r171_35, r171_36, r171_37, r171_42, r171_44, r171_46, r171_47, r171_50, r171_51, r171_53, r171_56, r171_58, q171_2 (c_trayAt_no h1) hc, q171_14n0 e2, hx_0 hO, hX', pf_10150, sx_0 hO, su_at, oGF_is, WPo_some, List.getElem?_cons_succ, List.getElem?_cons_zero, kil_n, kil_i, kil_a, kil_u, kil_l, Option.toList_some, Option.toList_none, List.cons_append, List.nil_append, List.set_cons_succ, List.set_cons_zero, addm1, Nat.reduceAdd, List.length_cons, List.length_nil, Nat.reduceLT, not_true_eq_false, not_false_eq_true, if_true, if_false, or_self, and_self, true_and, and_true, or_true, true_or, false_or, or_false, false_and, and_false, show ¬ (1 : Int32) = 0 by decide]
theorem x_errata_ok (hO : XO E ah A) (hE : ErE E) {tx sp : Nat} {hT eC tL st : Int32} (hX : S 0 = xO A tx sp hT eC tL st) (ht : trS A S sr mn tn) {f : Nat} (hW : erW A S f wi sh) {j : Nat} (hj : j < 4) (h1 : 1 ≤ k) (h4 : k ≤ 4) (hn : n ≤ 20) (hkn : k < n) (hb : b ≤ 1000) (hm : n ≤ mn j) (hr : ∀ q, q < n → 0 ≤ tn j q ∧ tn j q ≤ 99999999) (hs : ecSt sr mn tn (nI j) (nI n) (nI k) (nI b) = 0) : ∃ r fn' wi' sh' S', EV E (c + 6) 171 [.ref (A 0), .int (nI j), .int (nI n), .int (nI k), .int (nI b)] (oh E ah A S) (some (.int r)) (oh E ah A S') ∧ erA n k b (tV (tn j)) (nI f) wi sh r fn' wi' sh' ∧ S' 0 = xO A tx sp hT eC tL (if r = -1 then 8 else 0) ∧ (∃ mn' od bd lo hi vl oc dl OP, S' = eS A S' fn' mn' od bd lo hi vl oc wi' sh' dl OP) ∧ ∀ q, q ≠ 0 → ¬ (19 ≤ q ∧ q ≤ 45) → S' q = S q := by
  obtain ⟨hf2, mn1, od1, bd1, lo1, hi1, vl1, oc1, dl1, OP1, hS⟩ := hW
  have hc := hO.c0 hX
  have hX' := hX
  -- the state with its status set
  let S1 := su S 0 (xO A tx sp hT eC tL 0)
  have hS1 : S1 = eS A S1 (nI f) mn1 od1 bd1 lo1 hi1 vl1 oc1 wi sh dl1 OP1 := by
    funext q
    by_cases z : q = 0
    · rw [z, eS_ne (by omega)]
    · show su S 0 _ q = _
      rw [su_ne z, hS]
      unfold eS
      split
      · rfl
      · split
        · rfl
        · split
          · rfl
          · split
            · rfl
            · split
              · rfl
              · split
                · rfl
                · split
                  · rfl
                  · split
                    · rfl
                    · show S q = su S 0 _ q
                      rw [su_ne z]
  obtain ⟨r, fn', lo', hi', vl', oc', wi', sh', dl', OP', k1, hA⟩ := c_fewest (E := E) (c := c) (S := S1) (fn := nI f) (lo := lo1) (hi := hi1) (vl := vl1) (oc := oc1) (wi := wi) (sh := sh) (dl := dl1) (OP := OP1) hO hE ht.x hj h1 h4 hn hkn hb hm hr (mn' := mn1) (od := od1) (bd := bd1)
  rw [← hS1] at k1
  let S2 := eS A S1 fn' (nI n) (nI k) (nI b) lo' hi' vl' oc' wi' sh' dl' OP'
  have hX1 : S1 0 = xO A tx sp hT eC tL 0 := su_at
  have hX2 : S2 0 = xO A tx sp hT eC tL 0 := by show eS _ _ _ _ _ _ _ _ _ _ _ _ _ _ 0 = _; rw [eS_ne (by omega)]; exact hX1
  have ci1 : oCI (hg E (oh E ah A S1) (A 19)) = 3 := by rw [hS1]; exact er_ci hO
  refine ⟨r, fn', wi', sh', su S2 0 (xO A tx sp hT eC tL (if r = -1 then 8 else 0)), e171 ?_, hA, su_at, ⟨nI n, nI k, nI b, lo', hi', vl', oc', dl', OP', ?_⟩, fun q h0 hq => by rw [su_ne h0]; show eS _ _ _ _ _ _ _ _ _ _ _ _ _ _ q = _; rw [eS_ne hq]; exact su_ne h0⟩
  · have hX1' := hX1
    have hX2' := hX2
    have e0 : su S 0 (xO A tx sp hT eC tL 0) = S1 := rfl
    have f1 : su S2 0 (xO A tx sp hT eC tL 0) = S2 := by rw [← hX2]; exact su_self
    have k1 : EV E (c + 5) 57 [.ref (A 19), .ref (A (73 + 2 * j)), .int (nI n), .int (nI k), .int (nI b)] (oh E ah A S1) (some (.int r)) (oh E ah A S2) := k1
    by_cases y : r = -1
    · rw [if_pos y]
      subst y
      unfold xO at hX' hX1' hX2' e0 ⊢
      simp (disch := first | assumption | omega | decide | (simp only [List.length_cons, List.length_nil, Nat.reduceAdd, Nat.reduceLT]; done) | fail) only [r171_0, r171_1, r171_5, r171_5n, r171_7, r171_8, r171_8n, r171_10, r171_11, r171_12, r171_17, r171_20, r171_21, r171_24, r171_27, r171_28, r171_29, r171_30, r171_33, r171_33n, r171_35, r171_36, r171_37, r171_42, r171_44, r171_46, r171_47, r171_50, r171_51, r171_53, r171_56, r171_58, q171_2 (c_trayAt hO hX ht hj) hc, q171_14 (c_errataSt hO ht hj), hs, hx_0 hO, hX', hX1', hX2', pf_10150, sx_0 hO, e0, q171_39 k1 ci1, oGF_is, WPo_some, List.getElem?_cons_succ, List.getElem?_cons_zero, kil_n, kil_i, kil_a, kil_u, kil_l, Option.toList_some, Option.toList_none, List.cons_append, List.nil_append, List.set_cons_succ, List.set_cons_zero, addm1, Nat.reduceAdd, List.length_cons, List.length_nil, Nat.reduceLT, not_true_eq_false, not_false_eq_true, if_true, if_false, or_self, and_self, true_and, and_true, or_true, true_or, false_or, or_false, false_and, and_false]
    · rw [if_neg y, f1]
      unfold xO at hX' hX1' hX2' e0
      simp (disch := first | assumption | omega | decide | (simp only [List.length_cons, List.length_nil, Nat.reduceAdd, Nat.reduceLT]; done) | fail) only [r171_0, r171_1, r171_5, r171_5n, r171_7, r171_8, r171_8n, r171_10, r171_11, r171_12, r171_17, r171_20, r171_21, r171_24, r171_27, r171_28, r171_29, r171_30, r171_33, r171_33n, r171_35, r171_36, r171_37, r171_42, r171_44, r171_46, r171_47, r171_50, r171_51, r171_53, r171_56, r171_58, q171_2 (c_trayAt hO hX ht hj) hc, q171_14 (c_errataSt hO ht hj), hs, hx_0 hO, hX', hX1', hX2', pf_10150, sx_0 hO, e0, q171_39 k1 ci1, y, oGF_is, WPo_some, List.getElem?_cons_succ, List.getElem?_cons_zero, kil_n, kil_i, kil_a, kil_u, kil_l, Option.toList_some, Option.toList_none, List.cons_append, List.nil_append, List.set_cons_succ, List.set_cons_zero, addm1, Nat.reduceAdd, List.length_cons, List.length_nil, Nat.reduceLT, not_true_eq_false, not_false_eq_true, if_true, if_false, or_self, and_self, true_and, and_true, or_true, true_or, false_or, or_false, false_and, and_false]
  · funext q
    by_cases z : q = 0
    · rw [z, eS_ne (by omega)]
    · rw [su_ne z]
      show eS _ _ _ _ _ _ _ _ _ _ _ _ _ _ q = _
      unfold eS
      split
      · rfl
      · split
        · rfl
        · split
          · rfl
          · split
            · rfl
            · split
              · rfl
              · split
                · rfl
                · split
                  · rfl
                  · split
                    · rfl
                    · next h1 h2 h3 h4 h5 h6 h7 h8 =>
                      rw [su_ne z]
                      show S1 q = eS _ _ _ _ _ _ _ _ _ _ _ _ _ _ q
                      rw [eS_ne (by omega)]
end EXc

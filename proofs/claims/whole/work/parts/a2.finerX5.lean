/-! finer: the nearest number for every long; whether all rows are right -/
noncomputable def nrL (x y : Int64) : Int64 := iL ((2 * x + y).toInt / (2 * y).toInt)
section NRL
variable {E : aEnv} {c : Nat} {ah : aHp}
theorem nr_two {b : Nat} (hb : b ≤ 1000000000000) : (2 * lN b).toInt = 2 * b := by
  rw [show 2 * lN b = lN (2 * b) from lN_mul 2 b, lN_toInt63 (by omega)]
  omega
theorem c_near {x : Int64} {b : Nat} (hb : 0 < b) (hb2 : b ≤ 1000000000000) : EV E (c + 1) 31 [.long x, .long (lN b)] ah (some (.long (nrL x (lN b)))) ah := by
  refine e31 ?_
  have e2 := nr_two hb2
  have k := c_floorDiv (E := E) (c := c) (ah := ah) (x := 2 * x + lN b) (y := 2 * lN b) (by rw [e2]; omega)
  have e0 : ¬ lN b ≤ 0 := by
    rw [i64_le, lN_toInt63 (by omega)]
    exact fun z => absurd (show (b : Int) ≤ 0 from z) (by omega)
  simp (disch := first | assumption | omega | decide | (simp only [List.length_cons, List.length_nil, Nat.reduceAdd, Nat.reduceLT]; done) | fail) only [r31_0, r31_1, r31_2, r31_3, r31_6, r31_9, r31_10, r31_11, r31_12, r31_13, r31_16, r31_17, r31_21, r31_24, r31_25, q31_18 k, lg_cmp_le, e0, oGF_is, WPo_some, List.getElem?_cons_succ, List.getElem?_cons_zero, kil_n, kil_i, kil_a, kil_u, kil_l, Option.toList_some, Option.toList_none, List.cons_append, List.nil_append, List.set_cons_succ, List.set_cons_zero, addm1, Nat.reduceAdd, List.length_cons, List.length_nil, Nat.reduceLT, not_true_eq_false, not_false_eq_true, if_true, if_false, or_self, and_self, true_and, and_true, or_true, true_or, false_or, or_false, false_and, and_false]
  exact rfl
theorem m_near {x : Int64} {b : Nat} (hb : 0 < b) (hb2 : b ≤ 1000000000000) : EV E (c + 1) 232 [.long x, .long (lN b)] ah (some (.long (nrL x (lN b)))) ah := by
  refine e232 ?_
  have e2 := nr_two hb2
  have k := c_floorDiv (E := E) (c := c) (ah := ah) (x := 2 * x + lN b) (y := 2 * lN b) (by rw [e2]; omega)
  simp (disch := first | assumption | omega | decide | (simp only [List.length_cons, List.length_nil, Nat.reduceAdd, Nat.reduceLT]; done) | fail) only [r232_0, r232_3, r232_4, r232_5, r232_6, r232_7, r232_10, r232_11, r232_15, q232_12 k, oGF_is, WPo_some, List.getElem?_cons_succ, List.getElem?_cons_zero, kil_n, kil_i, kil_a, kil_u, kil_l, Option.toList_some, Option.toList_none, List.cons_append, List.nil_append, List.set_cons_succ, List.set_cons_zero, addm1, Nat.reduceAdd, List.length_cons, List.length_nil, Nat.reduceLT, not_true_eq_false, not_false_eq_true, if_true, if_false, or_self, and_self, true_and, and_true, or_true, true_or, false_or, or_false, false_and, and_false]
  exact rfl
end NRL
noncomputable def alR (n : Nat) (u b : Int64) : Nat → (Nat → Int64) → (Nat → Int64) → Int32
  | 0, _, _ => 1
  | r + 1, X, R => if nrL (X 0) u = nrL (R 0) b then alR n u b r (tx n X) (tx n R) else 0
theorem tx_eq {n : Nat} {D D' : Nat → Int64} (h : eqN n D D') : eqN n (tx n D) (tx n D') := by
  intro i hi
  unfold tx
  split
  · rw [h i hi, h (i + 1) (by omega)]
    split
    · rfl
    · split
      · rw [h (i + 2) (by omega)]
      · rfl
  · exact h i hi
theorem alR_eq {n : Nat} (hn : 1 ≤ n) {u b : Int64} : ∀ r X X' R R', eqN n X X' → eqN n R R' → alR n u b r X R = alR n u b r X' R'
  | 0, _, _, _, _, _, _ => rfl
  | r + 1, X, X', R, R', h1, h2 => by
    unfold alR
    rw [h1 0 (by omega), h2 0 (by omega), alR_eq hn r _ _ _ _ (tx_eq h1) (tx_eq h2)]
theorem alR_or {n : Nat} {u b : Int64} : ∀ r X R, alR n u b r X R = 0 ∨ alR n u b r X R = 1
  | 0, _, _ => Or.inr rfl
  | r + 1, X, R => by
    unfold alR
    split
    · exact alR_or r _ _
    · exact Or.inl rfl
/-- the two rows of the table that it works on -/
noncomputable def fT (S : Nat → aE) (X R : Nat → Int64) : Nat → aE := su (su S 11 (.inl (1, 5, .inr (.inl X)))) 12 (.inl (1, 5, .inr (.inl R)))
section FT
variable {E : aEnv} {c : Nat} {ah : aHp} {A : Nat → Nat} {S : Nat → aE} {X R : Nat → Int64}
theorem fT_8 : fT S X R 8 = S 8 := by unfold fT; rw [su_ne (by decide), su_ne (by decide)]
theorem fT_10 : fT S X R 10 = S 10 := by unfold fT; rw [su_ne (by decide), su_ne (by decide)]
theorem fT_11 : fT S X R 11 = .inl (1, 5, .inr (.inl X)) := by unfold fT; rw [su_ne (by decide), su_at]
theorem fT_12 : fT S X R 12 = .inl (1, 5, .inr (.inl R)) := by unfold fT; rw [su_at]
theorem fT_s11 {X' : Nat → Int64} : su (fT S X R) 11 (.inl (1, 5, .inr (.inl X'))) = fT S X' R := by
  funext j
  unfold fT su
  by_cases z : j = 11
  · subst z; rfl
  · simp only [z, if_false]
theorem fT_s12 {R' : Nat → Int64} : su (fT S X R) 12 (.inl (1, 5, .inr (.inl R'))) = fT S X R' := by unfold fT; rw [su_su]
theorem fT_ne {q : Nat} (h1 : ¬ q = 11) (h2 : ¬ q = 12) : fT S X R q = S q := by unfold fT; rw [su_ne h2, su_ne h1]
theorem fT_self {X' R' : Nat → Int64} : fT (fT S X R) X' R' = fT S X' R' := by
  funext j
  unfold fT su
  by_cases z : j = 12
  · subst z; rfl
  · by_cases z1 : j = 11
    · subst z1; rfl
    · simp only [z, z1, if_false]
theorem fT_of {S : Nat → aE} {X R : Nat → Int64} (h1 : S 11 = .inl (1, 5, .inr (.inl X))) (h2 : S 12 = .inl (1, 5, .inr (.inl R))) : fT S X R = S := by
  funext j
  unfold fT su
  by_cases z : j = 12
  · subst z; exact h2.symm
  · by_cases z1 : j = 11
    · subst z1; exact h1.symm
    · simp only [z, z1, if_false]
theorem tc0 : Int32.toNatClampNeg 0 = 0 := rfl
theorem l_arA (hO : XO E ah A) (h8 : S 8 = .inr (5, [.ref (A 9), .ref (A 10), .ref (A 11), .ref (A 12)])) {D : Nat → Int64} (h10 : S 10 = .inl (1, 5, .inr (.inl D))) {k u : Nat} (hk : k ≤ 4) (hu : 0 < u) (hu2 : u ≤ 1000000000000) {b : Int64} {l6 : Int32} {Q : Option Value → aHp → Prop} (K : ∀ l7, WP E (c + 2) 86 50 [some (.ref (A 8)), some (.int (nI k)), some (.long (lN u)), none, some (.long b), none, some (.int l6), l7] [] (oh E ah A (fT S (ovr X 0 (k + 1) D) (ovr R 0 (k + 1) (fun i => nrL (D i * b) (lN u))))) Q) : ∀ z i, i + z = k + 1 → WP E (c + 2) 86 3 [some (.ref (A 8)), some (.int (nI k)), some (.long (lN u)), none, some (.long b), none, some (.int l6), some (.int (nI i))] [] (oh E ah A (fT S (ovr X 0 i D) (ovr R 0 i (fun i => nrL (D i * b) (lN u))))) Q
  | 0, i, hz => by
    have K := K (some (.int (nI (k + 1))))
    rw [show i = k + 1 by omega, r86_3]
    simp (disch := first | assumption | omega | decide | (simp only [List.length_cons, List.length_nil, Nat.reduceAdd, Nat.reduceLT]; done) | fail) only [r86_5, r86_6, oGF_is, WPo_some, List.getElem?_cons_succ, List.getElem?_cons_zero, kil_n, kil_i, kil_a, kil_u, kil_l, Option.toList_some, Option.toList_none, List.cons_append, List.nil_append, List.set_cons_succ, List.set_cons_zero, addm1, Nat.reduceAdd, List.length_cons, List.length_nil, Nat.reduceLT, nI_clamp, nI_toInt, nI_leL, nI_Lle, nI_ltL, nI_Llt, nI_eqL, nI_Leq, nI_leE, nI_ltE, nI_eqE, nI_eqM, nI_add, nI_addL, nI_Ladd, nI_mulL, nI_Lmul, pk_mul, pk_sub, nI_subL, nI_Lsub, i2l_nI, Int.toNat_natCast, Nat.not_lt_zero, Nat.zero_le, ifT, ifF, not_true_eq_false, not_false_eq_true, if_true, if_false, or_self, and_self, true_and, and_true, or_true, true_or, false_or, or_false, false_and, and_false]
    exact K
  | z + 1, i, hz => by
    have ih := l_arA hO h8 h10 hk hu hu2 K z (i + 1) (by omega)
    have m1 := vupd_ovr (F := X) (i := i) (h := D) (x := D i) rfl
    have m2 := vupd_ovr (F := R) (i := i) (h := fun i => nrL (D i * b) (lN u)) (x := nrL (D i * b) (lN u)) rfl
    rw [r86_3]
    simp (disch := first | assumption | omega | decide | (simp only [List.length_cons, List.length_nil, Nat.reduceAdd, Nat.reduceLT]; done) | fail) only [r86_5, r86_6, r86_9, r86_10, r86_13, r86_15, r86_16, r86_19, r86_21, r86_22, r86_23, r86_24, r86_27, r86_29, r86_30, r86_33, r86_35, r86_36, r86_38, r86_39, r86_43, r86_44, r86_47, hx_8 hO, hx_10 hO, hx_11 hO, hx_12 hO, sx_11 hO, sx_12 hO, fT_8, fT_10, fT_11, fT_12, fT_s11, fT_s12, h8, h10, gL, pL, q86_40 (c_near hu hu2), m1, m2, oGF_is, WPo_some, List.getElem?_cons_succ, List.getElem?_cons_zero, kil_n, kil_i, kil_a, kil_u, kil_l, Option.toList_some, Option.toList_none, List.cons_append, List.nil_append, List.set_cons_succ, List.set_cons_zero, addm1, Nat.reduceAdd, List.length_cons, List.length_nil, Nat.reduceLT, nI_clamp, nI_toInt, nI_leL, nI_Lle, nI_ltL, nI_Llt, nI_eqL, nI_Leq, nI_leE, nI_ltE, nI_eqE, nI_eqM, nI_add, nI_addL, nI_Ladd, nI_mulL, nI_Lmul, pk_mul, pk_sub, nI_subL, nI_Lsub, i2l_nI, Int.toNat_natCast, Nat.not_lt_zero, Nat.zero_le, ifT, ifF, not_true_eq_false, not_false_eq_true, if_true, if_false, or_self, and_self, true_and, and_true, or_true, true_or, false_or, or_false, false_and, and_false]
    exact ih
theorem l_arB (hO : XO E ah A) (h8 : S 8 = .inr (5, [.ref (A 9), .ref (A 10), .ref (A 11), .ref (A 12)])) {k u b r : Nat} (hk : 1 ≤ k) (hk4 : k ≤ 4) (hu : 0 < u) (hu2 : u ≤ 1000000000000) (hb : 0 < b) (hb2 : b ≤ 1000000000000) (hr : r ≤ 60) : ∀ z i X R, i + z = r → WP E (c + 3) 86 53 [some (.ref (A 8)), some (.int (nI k)), some (.long (lN u)), none, some (.long (lN b)), none, some (.int (nI r)), some (.int (nI i))] [] (oh E ah A (fT S X R)) (fun r1 x1 => r1 = some (.int (alR (k + 1) (lN u) (lN b) z X R)) ∧ ∃ X' R', x1 = oh E ah A (fT S X' R'))
  | 0, i, X, R, hz => by
    rw [show i = r by omega, r86_53]
    simp (disch := first | assumption | omega | decide | (simp only [List.length_cons, List.length_nil, Nat.reduceAdd, Nat.reduceLT]; done) | fail) only [r86_55, r86_57, r86_115, r86_116 (x := 0) (Or.inl rfl), r86_116 (x := 1) (Or.inr rfl), r86_116 (b2i_or _), oGF_is, WPo_some, List.getElem?_cons_succ, List.getElem?_cons_zero, kil_n, kil_i, kil_a, kil_u, kil_l, Option.toList_some, Option.toList_none, List.cons_append, List.nil_append, List.set_cons_succ, List.set_cons_zero, addm1, Nat.reduceAdd, List.length_cons, List.length_nil, Nat.reduceLT, nI_clamp, nI_toInt, nI_leL, nI_Lle, nI_ltL, nI_Llt, nI_eqL, nI_Leq, nI_leE, nI_ltE, nI_eqE, nI_eqM, nI_add, nI_addL, nI_Ladd, nI_mulL, nI_Lmul, pk_mul, pk_sub, nI_subL, nI_Lsub, i2l_nI, Int.toNat_natCast, Nat.not_lt_zero, Nat.zero_le, ifT, ifF, not_true_eq_false, not_false_eq_true, if_true, if_false, or_self, and_self, true_and, and_true, or_true, true_or, false_or, or_false, false_and, and_false]
    exact ⟨rfl, X, R, rfl⟩
  | z + 1, i, X, R, hz => by
    have ih := l_arB hO h8 hk hk4 hu hu2 hb hb2 hr z (i + 1) (tx (k + 1) X) (tx (k + 1) R) (by omega)
    have t1 := c_turn0 (E := E) (c := c) (ah := oh E ah A (fT S X R)) (p := A 11) (n := k + 1) (D := X) (by omega) (by omega) (by rw [hx_11 hO, fT_11])
    rw [sx_11 hO, fT_s11] at t1
    have t2 := c_turn0 (E := E) (c := c) (ah := oh E ah A (fT S (tx (k + 1) X) R)) (p := A 12) (n := k + 1) (D := R) (by omega) (by omega) (by rw [hx_12 hO, fT_12])
    rw [sx_12 hO, fT_s12] at t2
    rw [r86_53]
    by_cases y : nrL (X 0) (lN u) = nrL (R 0) (lN b)
    · rw [show alR (k + 1) (lN u) (lN b) (z + 1) X R = alR (k + 1) (lN u) (lN b) z (tx (k + 1) X) (tx (k + 1) R) from if_pos y]
      simp (disch := first | assumption | omega | decide | (simp only [List.length_cons, List.length_nil, Nat.reduceAdd, Nat.reduceLT]; done) | fail) only [r86_55, r86_57, r86_60, r86_61, r86_64, r86_65, r86_66, r86_70, r86_71, r86_74, r86_75, r86_76, r86_81, r86_82, r86_85, r86_86 (x := 0) (Or.inl rfl), r86_86 (x := 1) (Or.inr rfl), r86_86 (b2i_or _), r86_87, r86_88, r86_91, r86_92, r86_93, r86_94, r86_98, r86_99, r86_102, r86_103, r86_104, r86_105, r86_109, r86_112, hx_8 hO, hx_11 hO, hx_12 hO, fT_8, fT_11, fT_12, h8, gL, q86_67 (c_near hu hu2), q86_78 (c_near hb hb2), q86_95 t1, q86_106 t2, lg_cmp_eq, tc0, y, oGF_is, WPo_some, List.getElem?_cons_succ, List.getElem?_cons_zero, kil_n, kil_i, kil_a, kil_u, kil_l, Option.toList_some, Option.toList_none, List.cons_append, List.nil_append, List.set_cons_succ, List.set_cons_zero, addm1, Nat.reduceAdd, List.length_cons, List.length_nil, Nat.reduceLT, nI_clamp, nI_toInt, nI_leL, nI_Lle, nI_ltL, nI_Llt, nI_eqL, nI_Leq, nI_leE, nI_ltE, nI_eqE, nI_eqM, nI_add, nI_addL, nI_Ladd, nI_mulL, nI_Lmul, pk_mul, pk_sub, nI_subL, nI_Lsub, i2l_nI, Int.toNat_natCast, Nat.not_lt_zero, Nat.zero_le, ifT, ifF, not_true_eq_false, not_false_eq_true, if_true, if_false, or_self, and_self, true_and, and_true, or_true, true_or, false_or, or_false, false_and, and_false]
      exact ih
    · rw [show alR (k + 1) (lN u) (lN b) (z + 1) X R = 0 from if_neg y]
      simp (disch := first | assumption | omega | decide | (simp only [List.length_cons, List.length_nil, Nat.reduceAdd, Nat.reduceLT]; done) | fail) only [r86_55, r86_57, r86_60, r86_61, r86_64, r86_65, r86_66, r86_70, r86_71, r86_74, r86_75, r86_76, r86_81, r86_82, r86_85, r86_86 (x := 0) (Or.inl rfl), r86_86 (x := 1) (Or.inr rfl), r86_86 (b2i_or _), hx_8 hO, hx_11 hO, hx_12 hO, fT_8, fT_11, fT_12, h8, gL, q86_67 (c_near hu hu2), q86_78 (c_near hb hb2), lg_cmp_eq, tc0, y, oGF_is, WPo_some, List.getElem?_cons_succ, List.getElem?_cons_zero, kil_n, kil_i, kil_a, kil_u, kil_l, Option.toList_some, Option.toList_none, List.cons_append, List.nil_append, List.set_cons_succ, List.set_cons_zero, addm1, Nat.reduceAdd, List.length_cons, List.length_nil, Nat.reduceLT, nI_clamp, nI_toInt, nI_leL, nI_Lle, nI_ltL, nI_Llt, nI_eqL, nI_Leq, nI_leE, nI_ltE, nI_eqE, nI_eqM, nI_add, nI_addL, nI_Ladd, nI_mulL, nI_Lmul, pk_mul, pk_sub, nI_subL, nI_Lsub, i2l_nI, Int.toNat_natCast, Nat.not_lt_zero, Nat.zero_le, ifT, ifF, not_true_eq_false, not_false_eq_true, if_true, if_false, or_self, and_self, true_and, and_true, or_true, true_or, false_or, or_false, false_and, and_false]
      exact ⟨X, R, rfl⟩
/-- what it rounds -/
noncomputable def rnD (D : Nat → Int64) (u b : Int64) : Nat → Int64 := fun i => nrL (D i * b) u
theorem c_allRight (hO : XO E ah A) (h8 : S 8 = .inr (5, [.ref (A 9), .ref (A 10), .ref (A 11), .ref (A 12)])) {D : Nat → Int64} (h10 : S 10 = .inl (1, 5, .inr (.inl D))) {k u b r : Nat} (hk : 1 ≤ k) (hk4 : k ≤ 4) (hu : 0 < u) (hu2 : u ≤ 1000000000000) (hb : 0 < b) (hb2 : b ≤ 1000000000000) (hr : r ≤ 60) : ∃ X' R', EV E (c + 3) 86 [.ref (A 8), .int (nI k), .long (lN u), .long (lN b), .int (nI r)] (oh E ah A (fT S X R)) (some (.int (alR (k + 1) (lN u) (lN b) r D (rnD D (lN u) (lN b))))) (oh E ah A (fT S X' R')) := by
  have l2 := l_arB (E := E) (c := c) hO h8 hk hk4 hu hu2 hb hb2 hr r 0 (ovr X 0 (k + 1) D) (ovr R 0 (k + 1) (fun i => nrL (D i * lN b) (lN u))) (by omega)
  have l1 := l_arA (c := c + 1) (X := X) (R := R) hO h8 h10 hk4 hu hu2 (b := lN b) (l6 := nI r) (K := fun l7 => by
    simp (disch := first | assumption | omega | decide | (simp only [List.length_cons, List.length_nil, Nat.reduceAdd, Nat.reduceLT]; done) | fail) only [r86_50, r86_51, oGF_is, WPo_some, List.getElem?_cons_succ, List.getElem?_cons_zero, kil_n, kil_i, kil_a, kil_u, kil_l, Option.toList_some, Option.toList_none, List.cons_append, List.nil_append, List.set_cons_succ, List.set_cons_zero, addm1, Nat.reduceAdd, List.length_cons, List.length_nil, Nat.reduceLT]
    exact l2) (k + 1) 0 (by omega)
  rw [ovr_0, ovr_0, alR_eq (by omega) r (ovr X 0 (k + 1) D) D (ovr R 0 (k + 1) (fun i => nrL (D i * lN b) (lN u))) (rnD D (lN u) (lN b)) (fun i hi => ovr0_in hi) (fun i hi => ovr0_in hi)] at l1
  obtain ⟨r1, a1, ⟨e1, X', R', e2⟩, w⟩ := WP.ex l1
  subst e1 e2
  refine ⟨X', R', e86 ?_⟩
  simp (disch := first | assumption | omega | decide | (simp only [List.length_cons, List.length_nil, Nat.reduceAdd, Nat.reduceLT]; done) | fail) only [r86_0, r86_1, oGF_is, WPo_some, List.getElem?_cons_succ, List.getElem?_cons_zero, kil_n, kil_i, kil_a, kil_u, kil_l, Option.toList_some, Option.toList_none, List.cons_append, List.nil_append, List.set_cons_succ, List.set_cons_zero, addm1, Nat.reduceAdd, List.length_cons, List.length_nil, Nat.reduceLT]
  exact w
end FT
theorem su_self {S : Nat → aE} {k : Nat} : su S k (S k) = S := by
  funext j
  unfold su
  split
  · next h => rw [h]
  · rfl

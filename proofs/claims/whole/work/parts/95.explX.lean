/-! The class' explanation: its cells, turning numbers -/
noncomputable def exC (A : Nat → Nat) (tl t a w k : Int32) (bf af as sh : Nat → Int64) (q : Nat) : aE := if q = 0 then .inr (4, [.ref (A 4), .ref (A 5), .ref (A 6), .ref (A 7), .int tl, .int t, .int a, .int w, .int k]) else if q = 1 then .inl (1, 7, .inr (.inl bf)) else if q = 2 then .inl (1, 7, .inr (.inl af)) else if q = 3 then .inl (1, 7, .inr (.inl as)) else .inl (1, 60, .inr (.inl sh))
noncomputable def exS (A : Nat → Nat) (S : Nat → aE) (tl t a w k : Int32) (bf af as sh : Nat → Int64) : Nat → aE := fun q => if 3 ≤ q ∧ q < 8 then exC A tl t a w k bf af as sh (q - 3) else S q
section EXS
variable {E : aEnv} {c : Nat} {ah : aHp} {A : Nat → Nat} {S : Nat → aE} {tl t a w k : Int32} {bf af as sh : Nat → Int64}
theorem exS_o {q : Nat} (h : q < 3 ∨ 8 ≤ q) : exS A S tl t a w k bf af as sh q = S q := if_neg (by omega)
theorem hx3 (h : XO E ah A) : hg E (oh E ah A (exS A S tl t a w k bf af as sh)) (A 3) = some (.inr (4, [.ref (A 4), .ref (A 5), .ref (A 6), .ref (A 7), .int tl, .int t, .int a, .int w, .int k])) := (hx_3 h).trans rfl
theorem hx4 (h : XO E ah A) : hg E (oh E ah A (exS A S tl t a w k bf af as sh)) (A 4) = some (.inl (1, 7, .inr (.inl bf))) := (hx_4 h).trans rfl
theorem hx5 (h : XO E ah A) : hg E (oh E ah A (exS A S tl t a w k bf af as sh)) (A 5) = some (.inl (1, 7, .inr (.inl af))) := (hx_5 h).trans rfl
theorem hx6 (h : XO E ah A) : hg E (oh E ah A (exS A S tl t a w k bf af as sh)) (A 6) = some (.inl (1, 7, .inr (.inl as))) := (hx_6 h).trans rfl
theorem hx7 (h : XO E ah A) : hg E (oh E ah A (exS A S tl t a w k bf af as sh)) (A 7) = some (.inl (1, 60, .inr (.inl sh))) := (hx_7 h).trans rfl
theorem exS_su {q : Nat} {e : aE} {tl' t' a' w' k' : Int32} {bf' af' as' sh' : Nat → Int64} (hq : 3 ≤ q ∧ q < 8) (he : ∀ j, j < 5 → exC A tl' t' a' w' k' bf' af' as' sh' j = if j + 3 = q then e else exC A tl t a w k bf af as sh j) : su (exS A S tl t a w k bf af as sh) q e = exS A S tl' t' a' w' k' bf' af' as' sh' := by
  funext j
  unfold su exS
  by_cases h1 : 3 ≤ j ∧ j < 8
  · rw [if_pos h1, if_pos h1, he (j - 3) (by omega), show j - 3 + 3 = j by omega]
  · rw [if_neg h1, if_neg h1, if_neg (by omega)]
theorem sx3 (h : XO E ah A) {tl' t' a' w' k' : Int32} : hs E (oh E ah A (exS A S tl t a w k bf af as sh)) (A 3) (.inr (4, [.ref (A 4), .ref (A 5), .ref (A 6), .ref (A 7), .int tl', .int t', .int a', .int w', .int k'])) = oh E ah A (exS A S tl' t' a' w' k' bf af as sh) := by
  rw [sx_3 h, exS_su (q := 3) (by decide)]
  intro j hj
  rcases (show j = 0 ∨ j = 1 ∨ j = 2 ∨ j = 3 ∨ j = 4 by omega) with rfl | rfl | rfl | rfl | rfl <;> simp [exC]
theorem sx4 (h : XO E ah A) {g : Nat → Int64} : hs E (oh E ah A (exS A S tl t a w k bf af as sh)) (A 4) (.inl (1, 7, .inr (.inl g))) = oh E ah A (exS A S tl t a w k g af as sh) := by
  rw [sx_4 h, exS_su (q := 4) (by decide)]
  intro j hj
  rcases (show j = 0 ∨ j = 1 ∨ j = 2 ∨ j = 3 ∨ j = 4 by omega) with rfl | rfl | rfl | rfl | rfl <;> simp [exC]
theorem sx5 (h : XO E ah A) {g : Nat → Int64} : hs E (oh E ah A (exS A S tl t a w k bf af as sh)) (A 5) (.inl (1, 7, .inr (.inl g))) = oh E ah A (exS A S tl t a w k bf g as sh) := by
  rw [sx_5 h, exS_su (q := 5) (by decide)]
  intro j hj
  rcases (show j = 0 ∨ j = 1 ∨ j = 2 ∨ j = 3 ∨ j = 4 by omega) with rfl | rfl | rfl | rfl | rfl <;> simp [exC]
theorem sx6 (h : XO E ah A) {g : Nat → Int64} : hs E (oh E ah A (exS A S tl t a w k bf af as sh)) (A 6) (.inl (1, 7, .inr (.inl g))) = oh E ah A (exS A S tl t a w k bf af g sh) := by
  rw [sx_6 h, exS_su (q := 6) (by decide)]
  intro j hj
  rcases (show j = 0 ∨ j = 1 ∨ j = 2 ∨ j = 3 ∨ j = 4 by omega) with rfl | rfl | rfl | rfl | rfl <;> simp [exC]
theorem sx7 (h : XO E ah A) {g : Nat → Int64} : hs E (oh E ah A (exS A S tl t a w k bf af as sh)) (A 7) (.inl (1, 60, .inr (.inl g))) = oh E ah A (exS A S tl t a w k bf af as g) := by
  rw [sx_7 h, exS_su (q := 7) (by decide)]
  intro j hj
  rcases (show j = 0 ∨ j = 1 ∨ j = 2 ∨ j = 3 ∨ j = 4 by omega) with rfl | rfl | rfl | rfl | rfl <;> simp [exC]
end EXS
theorem vupd_ovr_in {F h : Nat → Int64} {n i : Nat} {x : Int64} (hi : i < n) : vp_updL (ovr F 0 n h) i x = ovr F 0 n (vp_updL h i x) := by
  funext p
  unfold vp_updL ovr
  by_cases e : p = i
  · subst e
    rw [if_pos rfl, if_pos (by omega), Nat.sub_zero]
    simp
  · rw [if_neg e]
    by_cases e2 : 0 ≤ p ∧ p < 0 + n
    · rw [if_pos e2, if_pos e2]
      dsimp only
      rw [if_neg (by omega)]
    · rw [if_neg e2, if_neg e2]
section TAX
variable {E : aEnv} {c p ax W : Nat}
theorem lN_le63 {a b : Nat} (ha : a < 2 ^ 63) (hb : b < 2 ^ 63) : (lN a ≤ lN b) = (a ≤ b) := by
  rw [i64_le, lN_toInt63 ha, lN_toInt63 hb]
  apply propext
  omega
theorem lN_lt63 {a b : Nat} (ha : a < 2 ^ 63) (hb : b < 2 ^ 63) : (lN a < lN b) = (a < b) := by
  rw [i64_lt, lN_toInt63 ha, lN_toInt63 hb]
  apply propext
  omega
theorem c_sum {ah : aHp} {x y : Nat} (hx : x < W) (hy : y < W) (hW : W < 9000000000000) : EV E c 30 [.long (lN x), .long (lN y), .long (lN W)] ah (some (.long (lN ((x + y) % W)))) ah := by
  refine e30 ?_
  have e0 : ¬ lN W ≤ 0 := by
    rw [show (0 : Int64) = lN 0 from rfl, lN_le63 (by omega) (by omega)]
    omega
  by_cases z : x + y < W
  · have z' : lN (x + y) < lN W := by rw [lN_lt63 (by omega) (by omega)]; exact z
    rw [Nat.mod_eq_of_lt z]
    simp (disch := first | assumption | omega | decide | (simp only [List.length_cons, List.length_nil, Nat.reduceAdd, Nat.reduceLT]; done) | fail) only [r30_0, r30_2, r30_3, r30_4, r30_7, r30_8, r30_9, r30_10, r30_12, r30_13, r30_16, r30_17, r30_18, r30_19, r30_21, r30_22, r30_25, r30_26, r30_27, r30_28, oGF_is, WPo_some, List.getElem?_cons_succ, List.getElem?_cons_zero, kil_n, kil_i, kil_a, kil_u, kil_l, Option.toList_some, Option.toList_none, List.cons_append, List.nil_append, List.set_cons_succ, List.set_cons_zero, addm1, Nat.reduceAdd, List.length_cons, List.length_nil, Nat.reduceLT, lg_cmp_le, lg_cmp_lt, e0, lN_add, z', not_true_eq_false, not_false_eq_true, if_true, if_false, or_self, and_self, true_and, and_true, or_true, true_or, false_or, or_false, false_and, and_false]
  · have z' : ¬ lN (x + y) < lN W := by rw [lN_lt63 (by omega) (by omega)]; exact z
    rw [md_ge (by omega) (by omega)]
    simp (disch := first | assumption | omega | decide | (simp only [List.length_cons, List.length_nil, Nat.reduceAdd, Nat.reduceLT]; done) | fail) only [r30_0, r30_2, r30_3, r30_4, r30_7, r30_8, r30_9, r30_10, r30_12, r30_13, r30_16, r30_17, r30_18, r30_19, r30_21, r30_22, r30_25, r30_26, r30_27, r30_28, oGF_is, WPo_some, List.getElem?_cons_succ, List.getElem?_cons_zero, kil_n, kil_i, kil_a, kil_u, kil_l, Option.toList_some, Option.toList_none, List.cons_append, List.nil_append, List.set_cons_succ, List.set_cons_zero, addm1, Nat.reduceAdd, List.length_cons, List.length_nil, Nat.reduceLT, lg_cmp_le, lg_cmp_lt, e0, lN_add, z', lN_sub, not_true_eq_false, not_false_eq_true, if_true, if_false, or_self, and_self, true_and, and_true, or_true, true_or, false_or, or_false, false_and, and_false]
theorem addX_v {x : Nat} {X : Nat → Nat} : vp_updL (fun y => lN (X y)) x (lN ((X x + X (x + 1)) % W)) = fun y => lN (addX W x X y) := by
  funext y
  unfold vp_updL addX
  by_cases z : y = x
  · rw [if_pos z, if_pos z]
  · rw [if_neg z, if_neg z]
theorem l_ta1 (h7 : ax ≤ 7) (hW : W < 9000000000000) (hW1 : 1 ≤ W) {D : Nat → Int64} {ah0 : aHp} (h0 : hg E ah0 p ≠ none) {l1 : Option Value} {Q : Option Value → aHp → Prop} : ∀ k x X, x ≤ 8 → ax ≤ x + 2 * k → bA ax W X → (∀ l5, WP E (c + 1) 29 44 [some (.ref p), l1, some (.long (lN W)), none, some (.int (nI ax)), l5] [] (hs E ah0 p (.inl (1, 7, .inr (.inl (ovr D 0 ax (fun y => lN (adX ax W k x X y))))))) Q) → WP E (c + 1) 29 11 [some (.ref p), l1, some (.long (lN W)), none, some (.int (nI ax)), some (.int (nI x))] [] (hs E ah0 p (.inl (1, 7, .inr (.inl (ovr D 0 ax (fun y => lN (X y))))))) Q
  | 0, x, X, hx8, hk, hb, K => by
    have K := K (some (.int (nI x)))
    rw [r29_11]
    simp (disch := first | assumption | omega | decide | (simp only [List.length_cons, List.length_nil, Nat.reduceAdd, Nat.reduceLT]; done) | fail) only [r29_13, r29_14, r29_15, r29_17, oGF_is, WPo_some, List.getElem?_cons_succ, List.getElem?_cons_zero, kil_n, kil_i, kil_a, kil_u, kil_l, Option.toList_some, Option.toList_none, List.cons_append, List.nil_append, List.set_cons_succ, List.set_cons_zero, addm1, Nat.reduceAdd, List.length_cons, List.length_nil, Nat.reduceLT, nI_clamp, nI_toInt, nI_leL, nI_Lle, nI_ltL, nI_Llt, nI_eqL, nI_Leq, nI_leE, nI_ltE, nI_eqE, nI_eqM, nI_add, nI_addL, nI_Ladd, nI_mulL, nI_Lmul, pk_mul, pk_sub, nI_subL, nI_Lsub, i2l_nI, Int.toNat_natCast, Nat.not_lt_zero, Nat.zero_le, ifT, ifF, not_true_eq_false, not_false_eq_true, if_true, if_false, or_self, and_self, true_and, and_true, or_true, true_or, false_or, or_false, false_and, and_false]
    exact K
  | k + 1, x, X, hx8, hk, hb, K => by
    rw [r29_11]
    by_cases z : x + 1 < ax
    · obtain ⟨e, he⟩ := Option.ne_none_iff_exists'.mp h0
      have ih := l_ta1 h7 hW hW1 h0 (l1 := l1) k (x + 2) (addX W x X) (by omega) (by omega) (addX_b hW1 hb) (by
        intro l5
        have K := K l5
        unfold adX at K
        rw [if_pos z] at K
        exact K)
      have m2 := vupd_ovr_in (F := D) (n := ax) (i := x) (h := fun y => lN (X y)) (x := lN ((X x + X (x + 1)) % W)) (by omega)
      rw [addX_v] at m2
      have s1 := fun ah => c_sum (E := E) (c := c) (ah := ah) (hb x (by omega)) (hb (x + 1) z) hW
      simp (disch := first | assumption | omega | decide | (simp only [List.length_cons, List.length_nil, Nat.reduceAdd, Nat.reduceLT]; done) | fail) only [r29_13, r29_14, r29_15, r29_17, r29_20, r29_20n, r29_21, r29_23, r29_23n, r29_24, r29_26, r29_27, r29_27n, r29_28, r29_30, r29_31, r29_32, r29_33, r29_37, r29_38, r29_41, oGF_is, WPo_some, List.getElem?_cons_succ, List.getElem?_cons_zero, kil_n, kil_i, kil_a, kil_u, kil_l, Option.toList_some, Option.toList_none, List.cons_append, List.nil_append, List.set_cons_succ, List.set_cons_zero, addm1, Nat.reduceAdd, List.length_cons, List.length_nil, Nat.reduceLT, nI_clamp, nI_toInt, nI_leL, nI_Lle, nI_ltL, nI_Llt, nI_eqL, nI_Leq, nI_leE, nI_ltE, nI_eqE, nI_eqM, nI_add, nI_addL, nI_Ladd, nI_mulL, nI_Lmul, pk_mul, pk_sub, nI_subL, nI_Lsub, i2l_nI, Int.toNat_natCast, Nat.not_lt_zero, Nat.zero_le, ifT, ifF, not_true_eq_false, not_false_eq_true, if_true, if_false, or_self, and_self, true_and, and_true, or_true, true_or, false_or, or_false, false_and, and_false, gL, pL, hg_same he, hs_hs, q29_34 (s1 _), ovr0_in, m2]
      exact ih
    · have K := K (some (.int (nI x)))
      unfold adX at K
      rw [if_neg z] at K
      simp (disch := first | assumption | omega | decide | (simp only [List.length_cons, List.length_nil, Nat.reduceAdd, Nat.reduceLT]; done) | fail) only [r29_13, r29_14, r29_15, r29_17, oGF_is, WPo_some, List.getElem?_cons_succ, List.getElem?_cons_zero, kil_n, kil_i, kil_a, kil_u, kil_l, Option.toList_some, Option.toList_none, List.cons_append, List.nil_append, List.set_cons_succ, List.set_cons_zero, addm1, Nat.reduceAdd, List.length_cons, List.length_nil, Nat.reduceLT, nI_clamp, nI_toInt, nI_leL, nI_Lle, nI_ltL, nI_Llt, nI_eqL, nI_Leq, nI_leE, nI_ltE, nI_eqE, nI_eqM, nI_add, nI_addL, nI_Ladd, nI_mulL, nI_Lmul, pk_mul, pk_sub, nI_subL, nI_Lsub, i2l_nI, Int.toNat_natCast, Nat.not_lt_zero, Nat.zero_le, ifT, ifF, not_true_eq_false, not_false_eq_true, if_true, if_false, or_self, and_self, true_and, and_true, or_true, true_or, false_or, or_false, false_and, and_false]
      exact K
theorem l_ta2 (h7 : ax ≤ 7) (hW : W < 9000000000000) (hW1 : 1 ≤ W) {D : Nat → Int64} {ah0 : aHp} (h0 : hg E ah0 p ≠ none) {l1 : Option Value} {Q : Option Value → aHp → Prop} : ∀ k x X, x ≤ 8 → ax ≤ x + 2 * k → bA ax W X → (∀ l5, WP E (c + 1) 29 80 [some (.ref p), l1, some (.long (lN W)), none, some (.int (nI ax)), l5] [] (hs E ah0 p (.inl (1, 7, .inr (.inl (ovr D 0 ax (fun y => lN (adX ax W k x X y))))))) Q) → WP E (c + 1) 29 47 [some (.ref p), l1, some (.long (lN W)), none, some (.int (nI ax)), some (.int (nI x))] [] (hs E ah0 p (.inl (1, 7, .inr (.inl (ovr D 0 ax (fun y => lN (X y))))))) Q
  | 0, x, X, hx8, hk, hb, K => by
    have K := K (some (.int (nI x)))
    rw [r29_47]
    simp (disch := first | assumption | omega | decide | (simp only [List.length_cons, List.length_nil, Nat.reduceAdd, Nat.reduceLT]; done) | fail) only [r29_49, r29_50, r29_51, r29_53, oGF_is, WPo_some, List.getElem?_cons_succ, List.getElem?_cons_zero, kil_n, kil_i, kil_a, kil_u, kil_l, Option.toList_some, Option.toList_none, List.cons_append, List.nil_append, List.set_cons_succ, List.set_cons_zero, addm1, Nat.reduceAdd, List.length_cons, List.length_nil, Nat.reduceLT, nI_clamp, nI_toInt, nI_leL, nI_Lle, nI_ltL, nI_Llt, nI_eqL, nI_Leq, nI_leE, nI_ltE, nI_eqE, nI_eqM, nI_add, nI_addL, nI_Ladd, nI_mulL, nI_Lmul, pk_mul, pk_sub, nI_subL, nI_Lsub, i2l_nI, Int.toNat_natCast, Nat.not_lt_zero, Nat.zero_le, ifT, ifF, not_true_eq_false, not_false_eq_true, if_true, if_false, or_self, and_self, true_and, and_true, or_true, true_or, false_or, or_false, false_and, and_false]
    exact K
  | k + 1, x, X, hx8, hk, hb, K => by
    rw [r29_47]
    by_cases z : x + 1 < ax
    · obtain ⟨e, he⟩ := Option.ne_none_iff_exists'.mp h0
      have ih := l_ta2 h7 hW hW1 h0 (l1 := l1) k (x + 2) (addX W x X) (by omega) (by omega) (addX_b hW1 hb) (by
        intro l5
        have K := K l5
        unfold adX at K
        rw [if_pos z] at K
        exact K)
      have m2 := vupd_ovr_in (F := D) (n := ax) (i := x) (h := fun y => lN (X y)) (x := lN ((X x + X (x + 1)) % W)) (by omega)
      rw [addX_v] at m2
      have s1 := fun ah => c_sum (E := E) (c := c) (ah := ah) (hb x (by omega)) (hb (x + 1) z) hW
      simp (disch := first | assumption | omega | decide | (simp only [List.length_cons, List.length_nil, Nat.reduceAdd, Nat.reduceLT]; done) | fail) only [r29_49, r29_50, r29_51, r29_53, r29_56, r29_56n, r29_57, r29_59, r29_59n, r29_60, r29_62, r29_63, r29_63n, r29_64, r29_66, r29_67, r29_68, r29_69, r29_73, r29_74, r29_77, oGF_is, WPo_some, List.getElem?_cons_succ, List.getElem?_cons_zero, kil_n, kil_i, kil_a, kil_u, kil_l, Option.toList_some, Option.toList_none, List.cons_append, List.nil_append, List.set_cons_succ, List.set_cons_zero, addm1, Nat.reduceAdd, List.length_cons, List.length_nil, Nat.reduceLT, nI_clamp, nI_toInt, nI_leL, nI_Lle, nI_ltL, nI_Llt, nI_eqL, nI_Leq, nI_leE, nI_ltE, nI_eqE, nI_eqM, nI_add, nI_addL, nI_Ladd, nI_mulL, nI_Lmul, pk_mul, pk_sub, nI_subL, nI_Lsub, i2l_nI, Int.toNat_natCast, Nat.not_lt_zero, Nat.zero_le, ifT, ifF, not_true_eq_false, not_false_eq_true, if_true, if_false, or_self, and_self, true_and, and_true, or_true, true_or, false_or, or_false, false_and, and_false, gL, pL, hg_same he, hs_hs, q29_70 (s1 _), ovr0_in, m2]
      exact ih
    · have K := K (some (.int (nI x)))
      unfold adX at K
      rw [if_neg z] at K
      simp (disch := first | assumption | omega | decide | (simp only [List.length_cons, List.length_nil, Nat.reduceAdd, Nat.reduceLT]; done) | fail) only [r29_49, r29_50, r29_51, r29_53, oGF_is, WPo_some, List.getElem?_cons_succ, List.getElem?_cons_zero, kil_n, kil_i, kil_a, kil_u, kil_l, Option.toList_some, Option.toList_none, List.cons_append, List.nil_append, List.set_cons_succ, List.set_cons_zero, addm1, Nat.reduceAdd, List.length_cons, List.length_nil, Nat.reduceLT, nI_clamp, nI_toInt, nI_leL, nI_Lle, nI_ltL, nI_Llt, nI_eqL, nI_Leq, nI_leE, nI_ltE, nI_eqE, nI_eqM, nI_add, nI_addL, nI_Ladd, nI_mulL, nI_Lmul, pk_mul, pk_sub, nI_subL, nI_Lsub, i2l_nI, Int.toNat_natCast, Nat.not_lt_zero, Nat.zero_le, ifT, ifF, not_true_eq_false, not_false_eq_true, if_true, if_false, or_self, and_self, true_and, and_true, or_true, true_or, false_or, or_false, false_and, and_false]
      exact K
theorem c_turnAxes {ah : aHp} (h7 : ax ≤ 7) (hW : W < 9000000000000) (hW1 : 1 ≤ W) {D : Nat → Int64} {X : Nat → Nat} (hb : bA ax W X) (h : hg E ah p = some (.inl (1, 7, .inr (.inl (ovr D 0 ax (fun y => lN (X y))))))) : EV E (c + 2) 29 [.ref p, .int (nI ax), .long (lN W)] ah none (hs E ah p (.inl (1, 7, .inr (.inl (ovr D 0 ax (fun y => lN (trX ax W X y))))))) := by
  refine e29 ?_
  have h0 : hg E ah p ≠ none := by rw [h]; exact fun z => nomatch z
  have e1 := mnL h7 (show 7 ≤ 60 by decide)
  have b1 := adX_b (ax := ax) hW1 4 0 X hb
  have l := l_ta1 (c := c + 1) h7 hW hW1 h0 (D := D) (l1 := some (.int (nI ax))) (Q := fun r1 x1 => r1 = none ∧ x1 = hs E ah p (.inl (1, 7, .inr (.inl (ovr D 0 ax (fun y => lN (trX ax W X y))))))) 4 0 X (by omega) (by omega) hb (fun l5 => by
    have l' := l_ta2 (c := c + 1) h7 hW hW1 h0 (D := D) (l1 := some (.int (nI ax))) (Q := fun r1 x1 => r1 = none ∧ x1 = hs E ah p (.inl (1, 7, .inr (.inl (ovr D 0 ax (fun y => lN (trX ax W X y))))))) 4 1 (adX ax W 4 0 X) (by omega) (by omega) b1 (fun l5 => by
      simp (disch := first | assumption | omega | decide | (simp only [List.length_cons, List.length_nil, Nat.reduceAdd, Nat.reduceLT]; done) | fail) only [r29_80]
      exact ⟨trivial, rfl⟩)
    simp (disch := first | assumption | omega | decide | (simp only [List.length_cons, List.length_nil, Nat.reduceAdd, Nat.reduceLT]; done) | fail) only [r29_44, r29_45, oGF_is, WPo_some, List.getElem?_cons_succ, List.getElem?_cons_zero, kil_n, kil_i, kil_a, kil_u, kil_l, Option.toList_some, Option.toList_none, List.cons_append, List.nil_append, List.set_cons_succ, List.set_cons_zero, addm1, Nat.reduceAdd, List.length_cons, List.length_nil, Nat.reduceLT]
    exact l')
  rw [hs_self h] at l
  simp (disch := first | assumption | omega | decide | (simp only [List.length_cons, List.length_nil, Nat.reduceAdd, Nat.reduceLT]; done) | fail) only [r29_0, r29_1, r29_1n, r29_2, r29_6, r29_8, r29_9, gN_at h (by decide), q29_3 c_min, oGF_is, WPo_some, List.getElem?_cons_succ, List.getElem?_cons_zero, kil_n, kil_i, kil_a, kil_u, kil_l, Option.toList_some, Option.toList_none, List.cons_append, List.nil_append, List.set_cons_succ, List.set_cons_zero, addm1, Nat.reduceAdd, List.length_cons, List.length_nil, Nat.reduceLT, e1]
  exact l
end TAX
section CPN
variable {E : aEnv} {c b ax wh : Nat} {ah : aHp} {A : Nat → Nat} {S : Nat → aE} {al : Int64} {ms tu : Int32} {ei : Nat → Nat → Int32} {el : Nat → Nat → Int64} {r : Nat → Nat} {fg mq : Nat → Nat → Nat} {n : Nat}
/-- the numbers of an engine into the row 'after' of the explanation -/
theorem l_cpn (hO : XO E ah A) (h : XB E ah A b) (hb : 81 ≤ b) (hg : egR ax wh r fg mq n ei el) (hq : ∀ q, q < 11 → S (b + q) = eC A b ax wh al ms tu ei el q) {tl t a w k : Int32} {bf as sh D : Nat → Int64} : ∀ z i, i + z = ax → WP E (c + 2) 42 2 [some (.ref (A b)), some (.ref (A 5)), some (.int (nI i))] [] (oh E ah A (exS A S tl t a w k bf (ovr D 0 i (fun y => lN (NN r wh fg y))) as sh)) (fun r1 x1 => r1 = none ∧ x1 = oh E ah A (exS A S tl t a w k bf (ovr D 0 ax (fun y => lN (NN r wh fg y))) as sh))
  | 0, i, hz => by
    obtain ⟨g0, g1, g2, g3, g4, g5⟩ := hg
    have p0 := p_0 (S := exS A S tl t a w k bf (ovr D 0 i (fun y => lN (NN r wh fg y))) as sh) (eSt_id (fun q hq' => by rw [exS_o (by omega)]; exact hq q hq')) h
    rw [show i = ax by omega] at p0 ⊢
    rw [r42_2]
    simp (disch := first | assumption | omega | decide | (simp only [List.length_cons, List.length_nil, Nat.reduceAdd, Nat.reduceLT]; done) | fail) only [r42_3, r42_4, r42_7, r42_30, p0, oGF_is, WPo_some, List.getElem?_cons_succ, List.getElem?_cons_zero, kil_n, kil_i, kil_a, kil_u, kil_l, Option.toList_some, Option.toList_none, List.cons_append, List.nil_append, List.set_cons_succ, List.set_cons_zero, addm1, Nat.reduceAdd, List.length_cons, List.length_nil, Nat.reduceLT, nI_clamp, nI_toInt, nI_leL, nI_Lle, nI_ltL, nI_Llt, nI_eqL, nI_Leq, nI_leE, nI_ltE, nI_eqE, nI_eqM, nI_add, nI_addL, nI_Ladd, nI_mulL, nI_Lmul, pk_mul, pk_sub, nI_subL, nI_Lsub, i2l_nI, Int.toNat_natCast, Nat.not_lt_zero, Nat.zero_le, ifT, ifF, not_true_eq_false, not_false_eq_true, if_true, if_false, or_self, and_self, true_and, and_true, or_true, true_or, false_or, or_false, false_and, and_false]
  | z + 1, i, hz => by
    have ih := l_cpn hO h hb hg hq (tl := tl) (t := t) (a := a) (w := w) (k := k) (bf := bf) (as := as) (sh := sh) (D := D) z (i + 1) (by omega)
    obtain ⟨g0, g1, g2, g3, g4, g5⟩ := hg
    have hS := eSt_id (S := exS A S tl t a w k bf (ovr D 0 i (fun y => lN (NN r wh fg y))) as sh) (A := A) (b := b) (ax := ax) (wh := wh) (al := al) (ms := ms) (tu := tu) (ei := ei) (el := el) (fun q hq' => by rw [exS_o (by omega)]; exact hq q hq')
    have p0 := p_0 hS h
    have hi : i < ax := by omega
    have k1 := p_numberOn (c := c) hS h g0.2.1 g0.2.2.2 hi (rx := r) (f := fg i) g2 (fun w hw => ⟨(g3 i w hi hw).1, Nat.lt_of_lt_of_le (g3 i w hi hw).2 (g1 w hw).2.2⟩)
    have m2 := vupd_ovr (F := D) (i := i) (h := fun y => lN (NN r wh fg y)) (x := lN (nmb r (fg i) wh)) rfl
    rw [r42_2]
    simp (disch := first | assumption | omega | decide | (simp only [List.length_cons, List.length_nil, Nat.reduceAdd, Nat.reduceLT]; done) | fail) only [r42_3, r42_4, r42_7, r42_10, r42_11, r42_11n, r42_12, r42_13, r42_16, r42_16n, r42_17, r42_18, r42_19, r42_23, r42_24, r42_27, p0, q42_20 k1 (p_ci hS h), gN_at (hx5 hO) (by decide), pL, hx5 hO, sx5 hO, oGF_is, WPo_some, List.getElem?_cons_succ, List.getElem?_cons_zero, kil_n, kil_i, kil_a, kil_u, kil_l, Option.toList_some, Option.toList_none, List.cons_append, List.nil_append, List.set_cons_succ, List.set_cons_zero, addm1, Nat.reduceAdd, List.length_cons, List.length_nil, Nat.reduceLT, nI_clamp, nI_toInt, nI_leL, nI_Lle, nI_ltL, nI_Llt, nI_eqL, nI_Leq, nI_leE, nI_ltE, nI_eqE, nI_eqM, nI_add, nI_addL, nI_Ladd, nI_mulL, nI_Lmul, pk_mul, pk_sub, nI_subL, nI_Lsub, i2l_nI, Int.toNat_natCast, Nat.not_lt_zero, Nat.zero_le, ifT, ifF, not_true_eq_false, not_false_eq_true, if_true, if_false, or_self, and_self, true_and, and_true, or_true, true_or, false_or, or_false, false_and, and_false, m2, show Int32.ofNat 7 = 7 by decide]
    exact ih
theorem c_copyN (hO : XO E ah A) (h : XB E ah A b) (hb : 81 ≤ b) (hg : egR ax wh r fg mq n ei el) (hq : ∀ q, q < 11 → S (b + q) = eC A b ax wh al ms tu ei el q) {tl t a w k : Int32} {bf as sh D : Nat → Int64} : EV E (c + 2) 42 [.ref (A b), .ref (A 5)] (oh E ah A (exS A S tl t a w k bf D as sh)) none (oh E ah A (exS A S tl t a w k bf (ovr D 0 ax (fun y => lN (NN r wh fg y))) as sh)) := by
  refine e42 ?_
  have l := l_cpn (c := c) hO h hb hg hq (tl := tl) (t := t) (a := a) (w := w) (k := k) (bf := bf) (as := as) (sh := sh) (D := D) ax 0 (by omega)
  rw [ovr_0] at l
  simp (disch := first | assumption | omega | decide | (simp only [List.length_cons, List.length_nil, Nat.reduceAdd, Nat.reduceLT]; done) | fail) only [r42_0, r42_1, oGF_is, WPo_some, List.getElem?_cons_succ, List.getElem?_cons_zero, kil_n, kil_i, kil_a, kil_u, kil_l, Option.toList_some, Option.toList_none, List.cons_append, List.nil_append, List.set_cons_succ, List.set_cons_zero, addm1, Nat.reduceAdd, List.length_cons, List.length_nil, Nat.reduceLT]
  exact l
end CPN

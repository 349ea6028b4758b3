/-! Jobs of the class: the cells 54 to 60 as one state -/
noncomputable def jC (A : Nat → Nat) (n l b : Int32) (ji : Nat → Nat → Int32) (q : Nat) : aE := if q = 0 then jO A n l b else if q < 6 then .inl (0, 7, .inl (ji q)) else .inl (0, 4, .inl (ji 6))
noncomputable def jS (A : Nat → Nat) (S : Nat → aE) (n l b : Int32) (ji : Nat → Nat → Int32) : Nat → aE := fun q => if 54 ≤ q ∧ q < 61 then jC A n l b ji (q - 54) else S q
section JS
variable {E : aEnv} {c : Nat} {ah : aHp} {A : Nat → Nat} {S : Nat → aE} {n l b : Int32} {ji : Nat → Nat → Int32}
theorem jS_o {q : Nat} (h : q < 54 ∨ 61 ≤ q) : jS A S n l b ji q = S q := if_neg (by omega)
theorem jS_id (h : ∀ q, q < 7 → S (54 + q) = jC A n l b ji q) : jS A S n l b ji = S := by
  funext q
  unfold jS
  split
  · next z => rw [← h (q - 54) (by omega), show 54 + (q - 54) = q by omega]
  · rfl
theorem jS_su {q : Nat} {e : aE} {n' l' b' : Int32} {ji' : Nat → Nat → Int32} (hq : 54 ≤ q ∧ q < 61) (he : ∀ j, j < 7 → jC A n' l' b' ji' j = if j + 54 = q then e else jC A n l b ji j) : su (jS A S n l b ji) q e = jS A S n' l' b' ji' := by
  funext j
  unfold su jS
  by_cases h1 : 54 ≤ j ∧ j < 61
  · rw [if_pos h1, if_pos h1, he (j - 54) (by omega), show j - 54 + 54 = j by omega]
  · rw [if_neg h1, if_neg h1, if_neg (by omega)]
theorem gj_0 (h : XO E ah A) : hg E (oh E ah A (jS A S n l b ji)) (A 54) = some (.inr (6, [.ref (A 55), .ref (A 56), .ref (A 57), .ref (A 58), .ref (A 59), .ref (A 60), .int n, .int l, .int b])) := (hx_54 h).trans rfl
theorem sj_0 (h : XO E ah A) {n' l' b' : Int32} : hs E (oh E ah A (jS A S n l b ji)) (A 54) (.inr (6, [.ref (A 55), .ref (A 56), .ref (A 57), .ref (A 58), .ref (A 59), .ref (A 60), .int n', .int l', .int b'])) = oh E ah A (jS A S n' l' b' ji) := by
  rw [sx_54 h, jS_su (q := 54) (by decide)]
  intro j hj
  rcases (show j = 0 ∨ j = 1 ∨ j = 2 ∨ j = 3 ∨ j = 4 ∨ j = 5 ∨ j = 6 by omega) with rfl | rfl | rfl | rfl | rfl | rfl | rfl <;> simp [jC, jO]
theorem gj_1 (h : XO E ah A) : hg E (oh E ah A (jS A S n l b ji)) (A 55) = some (.inl (0, 7, .inl (ji 1))) := (hx_55 h).trans rfl
theorem sj_1 (h : XO E ah A) {g : Nat → Int32} : hs E (oh E ah A (jS A S n l b ji)) (A 55) (.inl (0, 7, .inl g)) = oh E ah A (jS A S n l b (iu ji 1 g)) := by
  rw [sx_55 h, jS_su (q := 55) (by decide)]
  intro j hj
  rcases (show j = 0 ∨ j = 1 ∨ j = 2 ∨ j = 3 ∨ j = 4 ∨ j = 5 ∨ j = 6 by omega) with rfl | rfl | rfl | rfl | rfl | rfl | rfl <;> simp [jC, jO, iu]
theorem gj_2 (h : XO E ah A) : hg E (oh E ah A (jS A S n l b ji)) (A 56) = some (.inl (0, 7, .inl (ji 2))) := (hx_56 h).trans rfl
theorem sj_2 (h : XO E ah A) {g : Nat → Int32} : hs E (oh E ah A (jS A S n l b ji)) (A 56) (.inl (0, 7, .inl g)) = oh E ah A (jS A S n l b (iu ji 2 g)) := by
  rw [sx_56 h, jS_su (q := 56) (by decide)]
  intro j hj
  rcases (show j = 0 ∨ j = 1 ∨ j = 2 ∨ j = 3 ∨ j = 4 ∨ j = 5 ∨ j = 6 by omega) with rfl | rfl | rfl | rfl | rfl | rfl | rfl <;> simp [jC, jO, iu]
theorem gj_3 (h : XO E ah A) : hg E (oh E ah A (jS A S n l b ji)) (A 57) = some (.inl (0, 7, .inl (ji 3))) := (hx_57 h).trans rfl
theorem sj_3 (h : XO E ah A) {g : Nat → Int32} : hs E (oh E ah A (jS A S n l b ji)) (A 57) (.inl (0, 7, .inl g)) = oh E ah A (jS A S n l b (iu ji 3 g)) := by
  rw [sx_57 h, jS_su (q := 57) (by decide)]
  intro j hj
  rcases (show j = 0 ∨ j = 1 ∨ j = 2 ∨ j = 3 ∨ j = 4 ∨ j = 5 ∨ j = 6 by omega) with rfl | rfl | rfl | rfl | rfl | rfl | rfl <;> simp [jC, jO, iu]
theorem gj_4 (h : XO E ah A) : hg E (oh E ah A (jS A S n l b ji)) (A 58) = some (.inl (0, 7, .inl (ji 4))) := (hx_58 h).trans rfl
theorem sj_4 (h : XO E ah A) {g : Nat → Int32} : hs E (oh E ah A (jS A S n l b ji)) (A 58) (.inl (0, 7, .inl g)) = oh E ah A (jS A S n l b (iu ji 4 g)) := by
  rw [sx_58 h, jS_su (q := 58) (by decide)]
  intro j hj
  rcases (show j = 0 ∨ j = 1 ∨ j = 2 ∨ j = 3 ∨ j = 4 ∨ j = 5 ∨ j = 6 by omega) with rfl | rfl | rfl | rfl | rfl | rfl | rfl <;> simp [jC, jO, iu]
theorem gj_5 (h : XO E ah A) : hg E (oh E ah A (jS A S n l b ji)) (A 59) = some (.inl (0, 7, .inl (ji 5))) := (hx_59 h).trans rfl
theorem sj_5 (h : XO E ah A) {g : Nat → Int32} : hs E (oh E ah A (jS A S n l b ji)) (A 59) (.inl (0, 7, .inl g)) = oh E ah A (jS A S n l b (iu ji 5 g)) := by
  rw [sx_59 h, jS_su (q := 59) (by decide)]
  intro j hj
  rcases (show j = 0 ∨ j = 1 ∨ j = 2 ∨ j = 3 ∨ j = 4 ∨ j = 5 ∨ j = 6 by omega) with rfl | rfl | rfl | rfl | rfl | rfl | rfl <;> simp [jC, jO, iu]
theorem gj_6 (h : XO E ah A) : hg E (oh E ah A (jS A S n l b ji)) (A 60) = some (.inl (0, 4, .inl (ji 6))) := (hx_60 h).trans rfl
theorem sj_6 (h : XO E ah A) {g : Nat → Int32} : hs E (oh E ah A (jS A S n l b ji)) (A 60) (.inl (0, 4, .inl g)) = oh E ah A (jS A S n l b (iu ji 6 g)) := by
  rw [sx_60 h, jS_su (q := 60) (by decide)]
  intro j hj
  rcases (show j = 0 ∨ j = 1 ∨ j = 2 ∨ j = 3 ∨ j = 4 ∨ j = 5 ∨ j = 6 by omega) with rfl | rfl | rfl | rfl | rfl | rfl | rfl <;> simp [jC, jO, iu]
end JS
section JX
variable {E : aEnv} {c : Nat} {ah : aHp} {A : Nat → Nat} {S : Nat → aE} {l b : Int32} {ji : Nat → Nat → Int32} {jn : Nat}
theorem j_ci (hO : XO E ah A) {n : Int32} : oCI (hg E (oh E ah A (jS A S n l b ji)) (A 54)) = 6 := by rw [gj_0 hO]; rfl
theorem c_jFull (hO : XO E ah A) (hn : jn ≤ 7) : EV E c 88 [.ref (A 54)] (oh E ah A (jS A S (nI jn) l b ji)) (some (.int (b2i (jn = 7)))) (oh E ah A (jS A S (nI jn) l b ji)) := by
  refine e88 ?_
  by_cases z : jn = 7
  · simp (disch := first | assumption | omega | decide | (simp only [List.length_cons, List.length_nil, Nat.reduceAdd, Nat.reduceLT]; done) | fail) only [r88_0, r88_1, r88_4, r88_6, r88_9, r88_10, r88_13, r88_14 (x := 0) (Or.inl rfl), r88_14 (x := 1) (Or.inr rfl), r88_14 (b2i_or _), gj_0 hO, oGF_is, WPo_some, List.getElem?_cons_succ, List.getElem?_cons_zero, kil_n, kil_i, kil_a, kil_u, kil_l, Option.toList_some, Option.toList_none, List.cons_append, List.nil_append, List.set_cons_succ, List.set_cons_zero, addm1, Nat.reduceAdd, List.length_cons, List.length_nil, Nat.reduceLT, nI_clamp, nI_toInt, nI_leL, nI_Lle, nI_ltL, nI_Llt, nI_eqL, nI_Leq, nI_leE, nI_ltE, nI_eqE, nI_eqM, nI_add, nI_addL, nI_Ladd, nI_mulL, nI_Lmul, pk_mul, pk_sub, nI_subL, nI_Lsub, i2l_nI, Int.toNat_natCast, Nat.not_lt_zero, Nat.zero_le, ifT, ifF, not_true_eq_false, not_false_eq_true, if_true, if_false, or_self, and_self, true_and, and_true, or_true, true_or, false_or, or_false, false_and, and_false, z, b2i]
  · simp (disch := first | assumption | omega | decide | (simp only [List.length_cons, List.length_nil, Nat.reduceAdd, Nat.reduceLT]; done) | fail) only [r88_0, r88_1, r88_4, r88_6, r88_9, r88_10, r88_13, r88_14 (x := 0) (Or.inl rfl), r88_14 (x := 1) (Or.inr rfl), r88_14 (b2i_or _), gj_0 hO, oGF_is, WPo_some, List.getElem?_cons_succ, List.getElem?_cons_zero, kil_n, kil_i, kil_a, kil_u, kil_l, Option.toList_some, Option.toList_none, List.cons_append, List.nil_append, List.set_cons_succ, List.set_cons_zero, addm1, Nat.reduceAdd, List.length_cons, List.length_nil, Nat.reduceLT, nI_clamp, nI_toInt, nI_leL, nI_Lle, nI_ltL, nI_Llt, nI_eqL, nI_Leq, nI_leE, nI_ltE, nI_eqE, nI_eqM, nI_add, nI_addL, nI_Ladd, nI_mulL, nI_Lmul, pk_mul, pk_sub, nI_subL, nI_Lsub, i2l_nI, Int.toNat_natCast, Nat.not_lt_zero, Nat.zero_le, ifT, ifF, not_true_eq_false, not_false_eq_true, if_true, if_false, or_self, and_self, true_and, and_true, or_true, true_or, false_or, or_false, false_and, and_false, z, b2i]
theorem c_jHas (hO : XO E ah A) (hn : jn ≤ 7) {x : Int32} : EV E c 89 [.ref (A 54), .int x] (oh E ah A (jS A S (nI jn) l b ji)) (some (.int (b2i (0 ≤ x.toInt ∧ x.toInt < jn)))) (oh E ah A (jS A S (nI jn) l b ji)) := by
  refine e89 ?_
  simp (disch := first | assumption | omega | decide | (simp only [List.length_cons, List.length_nil, Nat.reduceAdd, Nat.reduceLT]; done) | fail) only [r89_0, r89_1, r89_4, r89_5, r89_6, r89_9, r89_12, r89_13, r89_16, r89_17 (x := 0) (Or.inl rfl), r89_17 (x := 1) (Or.inr rfl), r89_17 (b2i_or _), gj_0 hO, oGF_is, WPo_some, List.getElem?_cons_succ, List.getElem?_cons_zero, kil_n, kil_i, kil_a, kil_u, kil_l, Option.toList_some, Option.toList_none, List.cons_append, List.nil_append, List.set_cons_succ, List.set_cons_zero, addm1, Nat.reduceAdd, List.length_cons, List.length_nil, Nat.reduceLT, i32_lt, i32_le, i64_lt, i64_le, i2l_toInt, Int32.reduceToInt, Int64.reduceToInt, nI_clamp, nI_toInt, nI_leL, nI_Lle, nI_ltL, nI_Llt, nI_eqL, nI_Leq, nI_leE, nI_ltE, nI_eqE, nI_eqM, nI_add, nI_addL, nI_Ladd, nI_mulL, nI_Lmul, pk_mul, pk_sub, nI_subL, nI_Lsub, i2l_nI, Int.toNat_natCast, Nat.not_lt_zero, Nat.zero_le, ifT, ifF, b2i]
  repeat' split
  all_goals first | exact trivial | exact ⟨rfl, rfl⟩ | (exfalso; omega) | (exfalso; simp_all; done) | (simp_all; done)
theorem c_jNew (hO : XO E ah A) {n : Int32} : EV E c 91 [.ref (A 54)] (oh E ah A (jS A S n l b ji)) none (oh E ah A (jS A S n l 0 ji)) := by
  refine e91 ?_
  simp (disch := first | assumption | omega | decide | (simp only [List.length_cons, List.length_nil, Nat.reduceAdd, Nat.reduceLT]; done) | fail) only [r91_0, r91_1, r91_2, r91_5, gj_0 hO, pf_6083 (Or.inl rfl), sj_0 hO, oGF_is, WPo_some, List.getElem?_cons_succ, List.getElem?_cons_zero, kil_n, kil_i, kil_a, kil_u, kil_l, Option.toList_some, Option.toList_none, List.cons_append, List.nil_append, List.set_cons_succ, List.set_cons_zero, addm1, Nat.reduceAdd, List.length_cons, List.length_nil, Nat.reduceLT, not_true_eq_false, not_false_eq_true, if_true, if_false, or_self, and_self, true_and, and_true, or_true, true_or, false_or, or_false, false_and, and_false]
theorem c_jTake (hO : XO E ah A) (hn : jn < 7) {x y z : Int32} : EV E (c + 1) 90 [.ref (A 54), .int x, .int y, .int z] (oh E ah A (jS A S (nI jn) l b ji)) (some (.int (nI jn))) (oh E ah A (jS A S (nI (jn + 1)) l 0 (iu (iu (iu ji 1 (upd (ji 1) jn x)) 2 (upd (ji 2) jn y)) 3 (upd (ji 3) jn z)))) := by
  refine e90 ?_
  simp (disch := first | assumption | omega | decide | (simp only [List.length_cons, List.length_nil, Nat.reduceAdd, Nat.reduceLT]; done) | fail) only [r90_0, r90_4, r90_7, r90_8, r90_9, r90_10, r90_13, r90_14, r90_17, r90_18, r90_19, r90_20, r90_23, r90_24, r90_27, r90_28, r90_29, r90_30, r90_33, r90_34, r90_37, r90_38, r90_39, r90_40, r90_40i, r90_41, r90_44, r90_45, r90_46, r90_49, r90_53, r90_54, r90_57, r90_58, r90_59, q90_1 (c_jFull hO (show jn ≤ 7 by omega)) (j_ci hO), q90_50 (c_jNew hO) (j_ci hO), gj_0 hO, gj_1 hO, gj_2 hO, gj_3 hO, sj_0 hO, sj_1 hO, sj_2 hO, sj_3 hO, pf_6060, pI, iu_ne, oGF_is, WPo_some, List.getElem?_cons_succ, List.getElem?_cons_zero, kil_n, kil_i, kil_a, kil_u, kil_l, Option.toList_some, Option.toList_none, List.cons_append, List.nil_append, List.set_cons_succ, List.set_cons_zero, addm1, Nat.reduceAdd, List.length_cons, List.length_nil, Nat.reduceLT, nI_clamp, nI_toInt, nI_leL, nI_Lle, nI_ltL, nI_Llt, nI_eqL, nI_Leq, nI_leE, nI_ltE, nI_eqE, nI_eqM, nI_add, nI_addL, nI_Ladd, nI_mulL, nI_Lmul, pk_mul, pk_sub, nI_subL, nI_Lsub, i2l_nI, Int.toNat_natCast, Nat.not_lt_zero, Nat.zero_le, ifT, ifF, not_true_eq_false, not_false_eq_true, if_true, if_false, or_self, and_self, true_and, and_true, or_true, true_or, false_or, or_false, false_and, and_false, b2i_eq0, Nat.add_sub_cancel]
end JX

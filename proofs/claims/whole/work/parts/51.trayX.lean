/-! Trays of the class: the calls -/
noncomputable def trS (A : Nat → Nat) (S : Nat → aE) (sr : Nat → Int32) (mn : Nat → Nat) (tn : Nat → Nat → Int64) : Prop :=
  S 1 = .inl (4, 4, .inr (.inr (.inr (.inr (fun i => if i < 4 then some (A (73 + 2 * i)) else none))))) ∧ ∀ i, i < 4 → S (73 + 2 * i) = .inr (9, [.ref (A (74 + 2 * i)), .int (sr i), .int (nI (mn i))]) ∧ S (74 + 2 * i) = .inl (1, 60, .inr (.inl (tn i))) ∧ mn i ≤ 60 ∧ (sr i = -1 ∨ (0 ≤ (sr i).toInt ∧ (sr i).toInt ≤ 3))
section TRX
variable {E : aEnv} {c : Nat} {ah : aHp} {A : Nat → Nat} {S : Nat → aE} {sr : Nat → Int32} {mn : Nat → Nat} {tn : Nat → Nat → Int64} {tx sp : Nat} {hT eC tL st : Int32}
theorem XO.g (hO : XO E ah A) {k : Nat} (hk : k < 81) : hg E (oh E ah A S) (A k) = some (S k) := oh_g hO.1 (hO.2 k hk)
theorem XO.s (hO : XO E ah A) {k : Nat} (hk : k < 81) {e : aE} : hs E (oh E ah A S) (A k) e = oh E ah A (su S k e) := oh_s hO.1 (hO.2 k hk)
theorem trS.TR (h : trS A S sr mn tn) (hO : XO E ah A) {i : Nat} (hi : i < 4) : TR E (oh E ah A S) (A (73 + 2 * i)) (A (74 + 2 * i)) (sr i) (mn i) (tn i) := by
  obtain ⟨h1, h2, h3, -⟩ := h.2 i hi
  exact ⟨(hO.g (by omega)).trans (by rw [h1]), (hO.g (by omega)).trans (by rw [h2]), h3⟩
theorem trS.x (h : trS A S sr mn tn) {e : aE} : trS A (su S 0 e) sr mn tn := by
  refine ⟨by simp [su, h.1], fun i hi => ?_⟩
  obtain ⟨h1, h2, h3⟩ := h.2 i hi
  exact ⟨by simp [su, h1], by simp [su, h2], h3⟩
theorem c_trayAt (hO : XO E ah A) (hX : S 0 = xO A tx sp hT eC tL st) (h : trS A S sr mn tn) {i : Nat} (hi : i < 4) : EV E c 182 [.ref (A 0), .int (nI i)] (oh E ah A S) (some (.ref (A (73 + 2 * i)))) (oh E ah A S) := by
  refine e182 ?_
  have h1 : ¬ nI i < 0 := nI_pos (by omega)
  have h2 : ¬ (4 : Int32) ≤ nI i := nI_ge (b := 4) (by omega) (by omega)
  have h3 : hg E (oh E ah A S) (A 1) = some (.inl (4, 4, .inr (.inr (.inr (.inr (fun i => if i < 4 then some (A (73 + 2 * i)) else none)))))) := (hx_1 hO).trans (by rw [h.1])
  simp only [r182_0, r182_1, r182_4, r182_5, r182_6, r182_9, r182_10, r182_13, hx_0 hO, hX, xO, oGF_is, WPo_some, List.getElem?_cons_succ, List.getElem?_cons_zero, kil_n, kil_i, kil_a, kil_u, kil_l, Option.toList_some, Option.toList_none, List.cons_append, List.nil_append, List.set_cons_succ, List.set_cons_zero, addm1, Nat.reduceAdd, List.length_cons, List.length_nil, Nat.reduceLT, h1, h2, not_true_eq_false, not_false_eq_true, if_true, if_false, or_self, and_self, true_and, and_true, or_true, true_or, false_or, or_false, false_and, and_false, r182_14, gA_at h3 (by decide) (by decide) (vp_in_nI hi (by omega)), nI_clamp (show i < 2 ^ 31 by omega), hi]
  simp only [va_rf, r182_15, r182_18, r182_19, r182_19n, not_true_eq_false, not_false_eq_true, if_true, if_false, or_self, and_self, true_and, and_true, or_true, true_or, false_or, or_false, false_and, and_false]
theorem c_trayAt_no {x : Int32} (hx : ¬ (0 ≤ x.toInt ∧ x.toInt ≤ 3)) {ah : aHp} {p : Nat} : EV E c 182 [.ref p, .int x] ah (some .null) ah := by
  refine e182 ?_
  rw [r182_0, r182_1]
  by_cases h1 : x < 0
  · simp only [h1, r182_18, r182_19, r182_19n, not_true_eq_false, not_false_eq_true, if_true, if_false, or_self, and_self, true_and, and_true, or_true, true_or, false_or, or_false, false_and, and_false]
  · have h2 : (4 : Int32) ≤ x := by
      simp only [i32_lt, i32_le, i64_lt, i64_le, i2l_toInt, Int32.reduceToInt, Int64.reduceToInt] at h1 ⊢
      omega
    simp only [h1, r182_4, r182_5, r182_6, h2, r182_18, r182_19, r182_19n, not_true_eq_false, not_false_eq_true, if_true, if_false, or_self, and_self, true_and, and_true, or_true, true_or, false_or, or_false, false_and, and_false]
noncomputable def tst (sort many : Int32) : Int32 := if ¬ (0 ≤ sort.toInt ∧ sort.toInt ≤ 3) then 1 else if 60 < many.toInt then 5 else if many.toInt < 0 then 6 else 0
theorem c_newTraySt {ah : aHp} {p : Nat} {sort many : Int32} : EV E c 184 [.ref p, .int sort, .int many] ah (some (.int (tst sort many))) ah := by
  refine e184 ?_
  simp only [r184_0, r184_0n, r184_1, r184_1n, r184_4, r184_5, r184_8, r184_9, r184_10, r184_13, r184_14, r184_15, r184_16, r184_18, r184_21, r184_22, r184_23, r184_24, r184_27, r184_29, r184_32, r184_33, i32_lt, i32_le, i64_lt, i64_le, i2l_toInt, Int32.reduceToInt, Int64.reduceToInt, tst]
  repeat' split
  all_goals first | exact ⟨rfl, rfl⟩ | (exfalso; omega) | (exfalso; simp_all; done) | (simp_all; done)
theorem c_newTraySt_no {ah : aHp} {sort many : Int32} : EV E c 184 [.null, .int sort, .int many] ah (some (.int 1)) ah := by
  refine e184n0 ?_
  simp only [r184_0, r184_0n, r184_1, r184_1n, r184_4, r184_5, r184_8, r184_9, r184_10, r184_13, r184_14, r184_15, r184_16, r184_18, r184_21, r184_22, r184_23, r184_24, r184_27, r184_29, r184_32, r184_33, not_true_eq_false, not_false_eq_true, if_true, if_false, or_self, and_self, true_and, and_true, or_true, true_or, false_or, or_false, false_and, and_false]
theorem c_make (hO : XO E ah A) (h : trS A S sr mn tn) {i : Nat} (hi : i < 4) {sort many : Int32} : EV E (c + 1) 136 [.ref (A (73 + 2 * i)), .int sort, .int many] (oh E ah A S) none (oh E ah A (su (su (su S (73 + 2 * i) (.inr (9, [.ref (A (74 + 2 * i)), .int sort, .int (nI (mn i))]))) (73 + 2 * i) (.inr (9, [.ref (A (74 + 2 * i)), .int sort, .int many]))) (74 + 2 * i) (.inl (1, 60, .inr (.inl (fillF (tn i) 0 60)))))) := by
  obtain ⟨h1, h2, h3, -⟩ := h.2 i hi
  refine e136 ?_
  have g1 : ∀ S, hg E (oh E ah A S) (A (73 + 2 * i)) = some (S (73 + 2 * i)) := fun S => hO.g (by omega)
  have s1 : ∀ S e, hs E (oh E ah A S) (A (73 + 2 * i)) e = oh E ah A (su S (73 + 2 * i) e) := fun S e => hO.s (by omega)
  have s2 : ∀ S e, hs E (oh E ah A S) (A (74 + 2 * i)) e = oh E ah A (su S (74 + 2 * i) e) := fun S e => hO.s (by omega)
  have u1 : ∀ S e, su S (73 + 2 * i) e (73 + 2 * i) = e := fun S e => by simp [su]
  simp only [r136_0, r136_1, r136_2, r136_5, r136_6, r136_7, r136_10, r136_11, r136_14, r136_18, g1, s1, u1, h1, pf_9010, pf_9020, oGF_is, WPo_some, List.getElem?_cons_succ, List.getElem?_cons_zero, kil_n, kil_i, kil_a, kil_u, kil_l, Option.toList_some, Option.toList_none, List.cons_append, List.nil_append, List.set_cons_succ, List.set_cons_zero, addm1, Nat.reduceAdd, List.length_cons, List.length_nil, Nat.reduceLT]
  have g3 : hg E (oh E ah A (su (su S (73 + 2 * i) (.inr (9, [.ref (A (74 + 2 * i)), .int sort, .int (nI (mn i))]))) (73 + 2 * i) (.inr (9, [.ref (A (74 + 2 * i)), .int sort, .int many])))) (A (74 + 2 * i)) = some (.inl (1, 60, .inr (.inl (tn i)))) := by
    rw [hO.g (by omega)]
    simp [su, h2, show ¬ 74 + 2 * i = 73 + 2 * i by omega]
  simp only [q136_15 (c_fill (x := 0) (show 60 < 2 ^ 31 by decide) g3), oGF_is, WPo_some, List.getElem?_cons_succ, List.getElem?_cons_zero, kil_n, kil_i, kil_a, kil_u, kil_l, Option.toList_some, Option.toList_none, List.cons_append, List.nil_append, List.set_cons_succ, List.set_cons_zero, addm1, Nat.reduceAdd, List.length_cons, List.length_nil, Nat.reduceLT, s2, r136_0, r136_1, r136_2, r136_5, r136_6, r136_7, r136_10, r136_11, r136_14, r136_18, not_true_eq_false, not_false_eq_true, if_true, if_false, or_self, and_self, true_and, and_true, or_true, true_or, false_or, or_false, false_and, and_false]
end TRX

/-! Trays of the class -/
noncomputable def TR (E : aEnv) (ah : aHp) (p a : Nat) (s : Int32) (k : Nat) (N : Nat → Int64) : Prop := hg E ah p = some (.inr (9, [.ref a, .int s, .int (nI k)])) ∧ hg E ah a = some (.inl (1, 60, .inr (.inl N))) ∧ k ≤ 60
/-- what a sort keeps of a number -/
noncomputable def cutF (s : Int32) (x : Int64) : Int64 := if s = 0 then x.toInt32.toInt8.toInt32.toInt64 else if s = 1 then x.toInt32.toInt16.toInt32.toInt64 else if s = 2 then x.toInt32.toInt64 else x
noncomputable def fillF (N : Nat → Int64) (x : Int64) (n : Nat) : Nat → Int64 := fun j => if j < n then x else N j
noncomputable def fillI (N : Nat → Int32) (x : Int32) (n : Nat) : Nat → Int32 := fun j => if j < n then x else N j
section TRAY
variable {E : aEnv} {c p a : Nat} {ah : aHp} {s : Int32} {k : Nat} {N : Nat → Int64}
theorem TR.ci (h : TR E ah p a s k N) : oCI (hg E ah p) = 9 := by rw [h.1]; rfl
theorem c_isMissing (h : TR E ah p a s k N) : EV E c 133 [.ref p] ah (some (.int (b2i (s = -1)))) ah := by
  refine e133 ?_
  simp only [r133_0, r133_1, r133_4, r133_5, r133_8, r133_9, r133_12, r133_13 (x := 0) (Or.inl rfl), r133_13 (x := 1) (Or.inr rfl), r133_13 (b2i_or _), h.1, oGF_is, WPo_some, List.getElem?_cons_succ, List.getElem?_cons_zero, kil_n, kil_i, kil_a, kil_u, kil_l, Option.toList_some, Option.toList_none, List.cons_append, List.nil_append, List.set_cons_succ, List.set_cons_zero, addm1, Nat.reduceAdd, List.length_cons, List.length_nil, Nat.reduceLT]
  by_cases h1 : s = -1 <;> simp [h1, b2i]
theorem c_isLike {p2 a2 k2 : Nat} {s2 : Int32} {N2 : Nat → Int64} (h : TR E ah p a s k N) (h2 : TR E ah p2 a2 s2 k2 N2) : EV E c 134 [.ref p, .ref p2] ah (some (.int (b2i (s = s2)))) ah := by
  refine e134 ?_
  simp only [r134_0, r134_1, r134_4, r134_4n, r134_5, r134_8, r134_11, r134_12, r134_15, r134_16 (x := 0) (Or.inl rfl), r134_16 (x := 1) (Or.inr rfl), r134_16 (b2i_or _), h.1, h2.1, oGF_is, WPo_some, List.getElem?_cons_succ, List.getElem?_cons_zero, kil_n, kil_i, kil_a, kil_u, kil_l, Option.toList_some, Option.toList_none, List.cons_append, List.nil_append, List.set_cons_succ, List.set_cons_zero, addm1, Nat.reduceAdd, List.length_cons, List.length_nil, Nat.reduceLT]
  by_cases h1 : s = s2 <;> simp [h1, b2i]
theorem c_length (h : TR E ah p a s k N) : EV E c 135 [.ref p] ah (some (.int (nI k))) ah := by
  refine e135 ?_
  simp only [r135_0, r135_1, r135_4, h.1, oGF_is, WPo_some, List.getElem?_cons_succ, List.getElem?_cons_zero, kil_n, kil_i, kil_a, kil_u, kil_l, Option.toList_some, Option.toList_none, List.cons_append, List.nil_append, List.set_cons_succ, List.set_cons_zero, addm1, Nat.reduceAdd, List.length_cons, List.length_nil, Nat.reduceLT, and_self]
theorem c_hasPlace (h : TR E ah p a s k N) {i : Int32} : EV E c 137 [.ref p, .int i] ah (some (.int (b2i (0 ≤ i.toInt ∧ i.toInt < k)))) ah := by
  refine e137 ?_
  have hk := h.2.2
  simp only [r137_0, r137_1, r137_4, r137_5, r137_6, r137_9, r137_12, r137_13, r137_16, r137_17 (x := 0) (Or.inl rfl), r137_17 (x := 1) (Or.inr rfl), r137_17 (b2i_or _), h.1, oGF_is, WPo_some, List.getElem?_cons_succ, List.getElem?_cons_zero, kil_n, kil_i, kil_a, kil_u, kil_l, Option.toList_some, Option.toList_none, List.cons_append, List.nil_append, List.set_cons_succ, List.set_cons_zero, addm1, Nat.reduceAdd, List.length_cons, List.length_nil, Nat.reduceLT, i32_lt, i32_le, i64_lt, i64_le, i2l_toInt, Int32.reduceToInt, Int64.reduceToInt, nI_toInt (show k < 2 ^ 31 by omega)]
  by_cases h1 : 0 ≤ i.toInt <;> by_cases h2 : i.toInt < k
  · simp [b2i, h1, h2, show ¬ i.toInt < 0 by omega, show ¬ (k : Int) ≤ i.toInt by omega]
  · simp [b2i, h1, h2, show ¬ i.toInt < 0 by omega, show (k : Int) ≤ i.toInt by omega]
  · simp [b2i, h1, h2, show i.toInt < 0 by omega]
  · simp [b2i, h1, h2, show i.toInt < 0 by omega]
theorem c_hasRow2 (h : TR E ah p a s k N) {i l : Int32} : EV E c 138 [.ref p, .int i, .int l] ah (some (.int (b2i (0 ≤ i.toInt ∧ 0 ≤ l.toInt ∧ i.toInt + l.toInt ≤ k)))) ah := by
  refine e138 ?_
  have hk := h.2.2
  have hl := i32_rg l
  simp only [r138_0, r138_1, r138_4, r138_5, r138_8, r138_9, r138_10, r138_13, r138_14, r138_15, r138_18, r138_19, r138_22, r138_23 (x := 0) (Or.inl rfl), r138_23 (x := 1) (Or.inr rfl), r138_23 (b2i_or _), h.1, oGF_is, WPo_some, List.getElem?_cons_succ, List.getElem?_cons_zero, kil_n, kil_i, kil_a, kil_u, kil_l, Option.toList_some, Option.toList_none, List.cons_append, List.nil_append, List.set_cons_succ, List.set_cons_zero, addm1, Nat.reduceAdd, List.length_cons, List.length_nil, Nat.reduceLT]
  by_cases h1 : i < 0
  · have h1' := h1
    simp only [i32_lt, i32_le, i64_lt, i64_le, i2l_toInt, Int32.reduceToInt, Int64.reduceToInt] at h1'
    simp [h1, b2i, show ¬ 0 ≤ i.toInt by omega]
  · have h1' := h1
    simp only [i32_lt, i32_le, i64_lt, i64_le, i2l_toInt, Int32.reduceToInt, Int64.reduceToInt] at h1'
    by_cases h2 : l < 0
    · have h2' := h2
      simp only [i32_lt, i32_le, i64_lt, i64_le, i2l_toInt, Int32.reduceToInt, Int64.reduceToInt] at h2'
      simp [h1, h2, b2i, show ¬ 0 ≤ l.toInt by omega]
    · have h2' := h2
      simp only [i32_lt, i32_le, i64_lt, i64_le, i2l_toInt, Int32.reduceToInt, Int64.reduceToInt] at h2'
      have e1 : (nI k - l).toInt = k - l.toInt := by
        rw [i32_sub] <;> rw [nI_toInt (by omega)] <;> omega
      by_cases h3 : nI k - l < i
      · have h3' := h3
        rw [i32_lt, e1] at h3'
        simp [h1, h2, h3, b2i, show ¬ i.toInt + l.toInt ≤ k by omega]
      · have h3' := h3
        rw [i32_lt, e1] at h3'
        simp [h1, h2, h3, b2i, show 0 ≤ i.toInt by omega, show 0 ≤ l.toInt by omega, show i.toInt + l.toInt ≤ k by omega]
theorem c_at (h : TR E ah p a s k N) {i : Nat} (hi : i < k) : EV E (c + 1) 139 [.ref p, .int (nI i)] ah (some (.long (N i))) ah := by
  refine e139 ?_
  have hk := h.2.2
  simp only [r139_0, r139_1, r139_5, r139_8, r139_9, r139_12, r139_13, r139_14, r139_17, r139_20, q139_2 (c_hasPlace h) h.ci, oGF_is, WPo_some, List.getElem?_cons_succ, List.getElem?_cons_zero, kil_n, kil_i, kil_a, kil_u, kil_l, Option.toList_some, Option.toList_none, List.cons_append, List.nil_append, List.set_cons_succ, List.set_cons_zero, addm1, Nat.reduceAdd, List.length_cons, List.length_nil, Nat.reduceLT, nI_toInt (show i < 2 ^ 31 by omega), b2i_eq0, show (0 : Int) ≤ (i : Int) by omega, show (i : Int) < (k : Int) by omega, not_true_eq_false, not_false_eq_true, if_true, if_false, or_self, and_self, true_and, and_true, or_true, true_or, false_or, or_false, false_and, and_false, h.1, gL_at h.2.1 (vp_in_nI (show i < 60 by omega) (by omega)), nI_clamp (show i < 2 ^ 31 by omega)]
theorem c_cut (h : TR E ah p a s k N) {x : Int64} : EV E c 141 [.ref p, .long x] ah (some (.long (cutF s x))) ah := by
  refine e141 ?_
  simp only [r141_0, r141_1, h.1, oGF_is, WPo_some, List.getElem?_cons_succ, List.getElem?_cons_zero, kil_n, kil_i, kil_a, kil_u, kil_l, Option.toList_some, Option.toList_none, List.cons_append, List.nil_append, List.set_cons_succ, List.set_cons_zero, addm1, Nat.reduceAdd, List.length_cons, List.length_nil, Nat.reduceLT]
  unfold cutF
  by_cases h0 : s = 0
  · subst h0
    simp only [r141_4_0, r141_32, r141_33, r141_34, r141_35, r141_36, r141_37, r141_38, r141_39, r141_40, r141_41, r141_42, r141_43, r141_44, r141_45, r141_46, r141_47, not_true_eq_false, not_false_eq_true, if_true, if_false, or_self, and_self, true_and, and_true, or_true, true_or, false_or, or_false, false_and, and_false]
  · by_cases h1 : s = 1
    · subst h1
      simp only [r141_4_1, r141_32, r141_33, r141_34, r141_35, r141_36, r141_37, r141_38, r141_39, r141_40, r141_41, r141_42, r141_43, r141_44, r141_45, r141_46, r141_47, h0, not_true_eq_false, not_false_eq_true, if_true, if_false, or_self, and_self, true_and, and_true, or_true, true_or, false_or, or_false, false_and, and_false]
    · by_cases h2 : s = 2
      · subst h2
        simp only [r141_4_2, r141_32, r141_33, r141_34, r141_35, r141_36, r141_37, r141_38, r141_39, r141_40, r141_41, r141_42, r141_43, r141_44, r141_45, r141_46, r141_47, h0, h1, not_true_eq_false, not_false_eq_true, if_true, if_false, or_self, and_self, true_and, and_true, or_true, true_or, false_or, or_false, false_and, and_false]
      · have h3 : s.toInt < 0 ∨ 2 < s.toInt := by
          have e0 : ¬ s.toInt = 0 := fun z => h0 (Int32.toInt_inj.mp z)
          have e1 : ¬ s.toInt = 1 := fun z => h1 (Int32.toInt_inj.mp z)
          have e2 : ¬ s.toInt = 2 := fun z => h2 (Int32.toInt_inj.mp z)
          omega
        rw [r141_4_d h3]
        simp only [r141_32, r141_33, r141_34, r141_35, r141_36, r141_37, r141_38, r141_39, r141_40, r141_41, r141_42, r141_43, r141_44, r141_45, r141_46, r141_47, h0, h1, h2, not_true_eq_false, not_false_eq_true, if_true, if_false, or_self, and_self, true_and, and_true, or_true, true_or, false_or, or_false, false_and, and_false]
theorem l_fill (x : Int64) {n : Nat} (hn : n < 2 ^ 31) : ∀ m i (ah : aHp) (N : Nat → Int64), i + m = n → hg E ah a = some (.inl (1, n, .inr (.inl N))) → WP E c 296 6 [some (.ref a), some (.long x), none, some (.int (nI i)), some (.int (nI n))] [] ah (fun r1 x1 => r1 = none ∧ x1 = hs E ah a (.inl (1, n, .inr (.inl (fun j => if i ≤ j ∧ j < n then x else N j)))))
  | 0, i, ah, N, hm, h => by
    have h1 : nI n ≤ nI i := nI_le (by omega) (by omega)
    rw [r296_6]
    simp only [r296_7, r296_9, r296_22, oGF_is, WPo_some, List.getElem?_cons_succ, List.getElem?_cons_zero, kil_n, kil_i, kil_a, kil_u, kil_l, Option.toList_some, Option.toList_none, List.cons_append, List.nil_append, List.set_cons_succ, List.set_cons_zero, addm1, Nat.reduceAdd, List.length_cons, List.length_nil, Nat.reduceLT, h1, not_true_eq_false, not_false_eq_true, if_true, if_false, or_self, and_self, true_and, and_true, or_true, true_or, false_or, or_false, false_and, and_false]
    have e1 : (fun j => if i ≤ j ∧ j < n then x else N j) = N := by
      funext j
      rw [if_neg (by omega)]
    rw [e1, hs_self h]
  | m + 1, i, ah, N, hm, h => by
    have h1 : ¬ nI n ≤ nI i := nI_ge (by omega) (by omega)
    have ih := l_fill x hn m (i + 1) (hs E ah a (.inl (1, n, .inr (.inl (vp_updL N i x))))) (vp_updL N i x) (by omega) (hg_same h)
    rw [r296_6]
    simp only [r296_0, r296_1, r296_2, r296_2n, r296_3, r296_4, r296_7, r296_9, r296_12, r296_12n, r296_13, r296_14, r296_15, r296_16, r296_19, r296_22, oGF_is, WPo_some, List.getElem?_cons_succ, List.getElem?_cons_zero, kil_n, kil_i, kil_a, kil_u, kil_l, Option.toList_some, Option.toList_none, List.cons_append, List.nil_append, List.set_cons_succ, List.set_cons_zero, addm1, Nat.reduceAdd, List.length_cons, List.length_nil, Nat.reduceLT, h1, not_true_eq_false, not_false_eq_true, if_true, if_false, or_self, and_self, true_and, and_true, or_true, true_or, false_or, or_false, false_and, and_false, pL_at h (vp_in_nI (show i < n by omega) hn), nI_clamp (show i < 2 ^ 31 by omega), nI_1]
    rw [hs_hs] at ih
    have e1 : (fun j => if i + 1 ≤ j ∧ j < n then x else vp_updL N i x j) = fun j => if i ≤ j ∧ j < n then x else N j := by
      funext j
      unfold vp_updL
      by_cases hj : j = i
      · subst hj
        rw [if_neg (by omega), if_pos rfl, if_pos (by omega)]
      · by_cases h2 : i + 1 ≤ j ∧ j < n
        · rw [if_pos h2, if_pos (by omega)]
        · rw [if_neg h2, if_neg hj, if_neg (by omega)]
    rw [e1] at ih
    exact ih
theorem c_fill {x : Int64} {n : Nat} (hn : n < 2 ^ 31) (h : hg E ah a = some (.inl (1, n, .inr (.inl N)))) : EV E c 296 [.ref a, .long x] ah none (hs E ah a (.inl (1, n, .inr (.inl (fillF N x n))))) := by
  refine e296 ?_
  simp only [r296_0, r296_1, r296_2, r296_2n, r296_3, r296_4, oGF_is, WPo_some, List.getElem?_cons_succ, List.getElem?_cons_zero, kil_n, kil_i, kil_a, kil_u, kil_l, Option.toList_some, Option.toList_none, List.cons_append, List.nil_append, List.set_cons_succ, List.set_cons_zero, addm1, Nat.reduceAdd, List.length_cons, List.length_nil, Nat.reduceLT, gN_at h (by decide)]
  have h1 := l_fill (E := E) (c := c) (a := a) x hn n 0 ah N (by omega) h
  have e1 : (fun j => if 0 ≤ j ∧ j < n then x else N j) = fillF N x n := by
    funext j
    simp [fillF]
  rw [e1] at h1
  exact h1
theorem l_allWithin (h : TR E ah p a s k N) {n : Nat} (hn : n ≤ k) (lo hi : Int64) : ∀ m i, i + m = n → (∀ j, j < i → lo ≤ N j ∧ N j ≤ hi) → ∀ a7, WP E (c + 2) 142 3 [some (.ref p), some (.int (nI n)), some (.long lo), none, some (.long hi), none, some (.int (nI i)), a7, none] [] ah (fun r1 x1 => r1 = some (.int (b2i (∀ j, j < n → lo ≤ N j ∧ N j ≤ hi))) ∧ x1 = ah)
  | 0, i, hm, hj, a7 => by
    have hk := h.2.2
    have h1 : nI n ≤ nI i := nI_le (by omega) (by omega)
    rw [show i = n by omega] at hj
    rw [r142_3]
    simp only [r142_5, r142_6, r142_40, r142_41 (x := 0) (Or.inl rfl), r142_41 (x := 1) (Or.inr rfl), r142_41 (b2i_or _), oGF_is, WPo_some, List.getElem?_cons_succ, List.getElem?_cons_zero, kil_n, kil_i, kil_a, kil_u, kil_l, Option.toList_some, Option.toList_none, List.cons_append, List.nil_append, List.set_cons_succ, List.set_cons_zero, addm1, Nat.reduceAdd, List.length_cons, List.length_nil, Nat.reduceLT, h1, not_true_eq_false, not_false_eq_true, if_true, if_false, or_self, and_self, true_and, and_true, or_true, true_or, false_or, or_false, false_and, and_false, b2i_t hj]
  | m + 1, i, hm, hj, a7 => by
    have hk := h.2.2
    have h1 : ¬ nI n ≤ nI i := nI_ge (by omega) (by omega)
    rw [r142_3]
    simp only [r142_5, r142_6, r142_9, r142_10, oGF_is, WPo_some, List.getElem?_cons_succ, List.getElem?_cons_zero, kil_n, kil_i, kil_a, kil_u, kil_l, Option.toList_some, Option.toList_none, List.cons_append, List.nil_append, List.set_cons_succ, List.set_cons_zero, addm1, Nat.reduceAdd, List.length_cons, List.length_nil, Nat.reduceLT, h1, not_true_eq_false, not_false_eq_true, if_true, if_false, or_self, and_self, true_and, and_true, or_true, true_or, false_or, or_false, false_and, and_false, q142_12 (c_at h (show i < k by omega)) h.ci, r142_15, r142_17, r142_19, r142_20, r142_21, r142_24, r142_26, r142_28, r142_29, r142_32, r142_33 (x := 0) (Or.inl rfl), r142_33 (x := 1) (Or.inr rfl), r142_33 (b2i_or _), r142_34, r142_37, lg_cmp_lt, lg_cmp_le, nI_1]
    by_cases h2 : N i < lo
    · have h3 : ¬ ∀ j, j < n → lo ≤ N j ∧ N j ≤ hi := fun z => by
        have := (z i (by omega)).1
        simp only [i64_le, i64_lt] at this h2
        omega
      simp only [h2, not_true_eq_false, not_false_eq_true, if_true, if_false, or_self, and_self, true_and, and_true, or_true, true_or, false_or, or_false, false_and, and_false, b2i_f h3]
    · by_cases h4 : N i ≤ hi
      · have h5 : lo ≤ N i := by simpa using h2
        simp only [h2, h4, not_true_eq_false, not_false_eq_true, if_true, if_false, or_self, and_self, true_and, and_true, or_true, true_or, false_or, or_false, false_and, and_false]
        exact l_allWithin h hn lo hi m (i + 1) (by omega) (fun j hj2 => by
          rcases Nat.lt_or_ge j i with z | z
          · exact hj j z
          · rw [show j = i by omega]; exact ⟨h5, h4⟩) _
      · have h3 : ¬ ∀ j, j < n → lo ≤ N j ∧ N j ≤ hi := fun z => h4 (z i (by omega)).2
        simp only [h2, h4, not_true_eq_false, not_false_eq_true, if_true, if_false, or_self, and_self, true_and, and_true, or_true, true_or, false_or, or_false, false_and, and_false, b2i_f h3]
theorem c_allWithin (h : TR E ah p a s k N) {n : Nat} (hn : n ≤ k) {lo hi : Int64} : EV E (c + 2) 142 [.ref p, .int (nI n), .long lo, .long hi] ah (some (.int (b2i (∀ j, j < n → lo ≤ N j ∧ N j ≤ hi)))) ah := by
  refine e142 ?_
  simp only [r142_0, r142_1, oGF_is, WPo_some, List.getElem?_cons_succ, List.getElem?_cons_zero, kil_n, kil_i, kil_a, kil_u, kil_l, Option.toList_some, Option.toList_none, List.cons_append, List.nil_append, List.set_cons_succ, List.set_cons_zero, addm1, Nat.reduceAdd, List.length_cons, List.length_nil, Nat.reduceLT]
  exact l_allWithin h hn lo hi n 0 (by omega) (fun j hj => by omega) _
end TRAY

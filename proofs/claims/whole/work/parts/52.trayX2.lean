/-! Trays of the class: tray, write, read -/
section TRX2
variable {E : aEnv} {c : Nat} {ah : aHp} {A : Nat → Nat} {S : Nat → aE} {sr : Nat → Int32} {mn : Nat → Nat} {tn : Nat → Nat → Int64} {tx sp : Nat} {hT eC tL st : Int32}
noncomputable def trSt (tray sort many : Int32) : Int32 := if ¬ (0 ≤ tray.toInt ∧ tray.toInt ≤ 3) then 1 else tst sort many
theorem XO.c73 (hO : XO E ah A) (h : trS A S sr mn tn) {i : Nat} (hi : i < 4) : oCI (hg E (oh E ah A S) (A (73 + 2 * i))) = 9 := (h.TR hO hi).ci
theorem x_tray_no (hO : XO E ah A) (hX : S 0 = xO A tx sp hT eC tL st) (h : trS A S sr mn tn) {tray sort many : Int32} (hs : ¬ trSt tray sort many = 0) : EV E (c + 2) 146 [.ref (A 0), .int tray, .int sort, .int many] (oh E ah A S) (some (.int 0)) (oh E ah A (su S 0 (xO A tx sp hT eC tL (trSt tray sort many)))) := by
  refine e146 ?_
  have hc := hO.c0 hX
  by_cases h1 : 0 ≤ tray.toInt ∧ tray.toInt ≤ 3
  · obtain ⟨i, hi, rfl⟩ := i32_nat (n := 4) h1.1 (by omega)
    have e1 : trSt (nI i) sort many = tst sort many := by simp only [trSt, h1, not_true_eq_false, not_false_eq_true, if_true, if_false, or_self, and_self, true_and, and_true, or_true, true_or, false_or, or_false, false_and, and_false]
    rw [e1] at hs ⊢
    have hX' := hX
    unfold xO at hX' ⊢
    simp only [r146_0, r146_1, r146_5, r146_5n, r146_7, r146_8, r146_8n, r146_10, r146_11, r146_15, r146_18, r146_19, r146_22, r146_25, r146_25n, r146_27, r146_28, r146_32, r146_33, r146_36, r146_39, r146_40, r146_43, r146_44 (x := 0) (Or.inl rfl), r146_44 (x := 1) (Or.inr rfl), r146_44 (b2i_or _), q146_2 (c_trayAt hO hX h hi) hc, oGF_is, WPo_some, List.getElem?_cons_succ, List.getElem?_cons_zero, kil_n, kil_i, kil_a, kil_u, kil_l, Option.toList_some, Option.toList_none, List.cons_append, List.nil_append, List.set_cons_succ, List.set_cons_zero, addm1, Nat.reduceAdd, List.length_cons, List.length_nil, Nat.reduceLT, q146_12 c_newTraySt, hx_0 hO, hX', pf_10150, sx_0 hO, su, hs, not_true_eq_false, not_false_eq_true, if_true, if_false, or_self, and_self, true_and, and_true, or_true, true_or, false_or, or_false, false_and, and_false]
  · have e1 : trSt tray sort many = 1 := by simp only [trSt, h1, not_true_eq_false, not_false_eq_true, if_true, if_false, or_self, and_self, true_and, and_true, or_true, true_or, false_or, or_false, false_and, and_false]
    rw [e1]
    have e2 : ¬ (1 : Int32) = 0 := by decide
    have hX' := hX
    unfold xO at hX' ⊢
    simp only [r146_0, r146_1, r146_5, r146_5n, r146_7, r146_8, r146_8n, r146_10, r146_11, r146_15, r146_18, r146_19, r146_22, r146_25, r146_25n, r146_27, r146_28, r146_32, r146_33, r146_36, r146_39, r146_40, r146_43, r146_44 (x := 0) (Or.inl rfl), r146_44 (x := 1) (Or.inr rfl), r146_44 (b2i_or _), q146_2 (c_trayAt_no h1) hc, oGF_is, WPo_some, List.getElem?_cons_succ, List.getElem?_cons_zero, kil_n, kil_i, kil_a, kil_u, kil_l, Option.toList_some, Option.toList_none, List.cons_append, List.nil_append, List.set_cons_succ, List.set_cons_zero, addm1, Nat.reduceAdd, List.length_cons, List.length_nil, Nat.reduceLT, q146_12n0 c_newTraySt_no, hx_0 hO, hX', pf_10150, sx_0 hO, su, e2, not_true_eq_false, not_false_eq_true, if_true, if_false, or_self, and_self, true_and, and_true, or_true, true_or, false_or, or_false, false_and, and_false]
theorem trSt_0 {tray sort many : Int32} (h : trSt tray sort many = 0) : ∃ i k, i < 4 ∧ tray = nI i ∧ (0 ≤ sort.toInt ∧ sort.toInt ≤ 3) ∧ k ≤ 60 ∧ many = nI k := by
  unfold trSt tst at h
  repeat' split at h
  all_goals first | (exfalso; revert h; decide) | skip
  rename_i h1 h2 h3 h4
  obtain ⟨h1a, h1b⟩ := Classical.not_not.mp h1
  obtain ⟨i, hi, e1⟩ := i32_nat (n := 4) h1a (by omega)
  obtain ⟨k, hk, e2⟩ := i32_nat (x := many) (n := 61) (by omega) (by omega)
  exact ⟨i, k, hi, e1, Classical.not_not.mp h2, by omega, e2⟩
noncomputable def fnu {α : Type} (f : Nat → α) (i : Nat) (x : α) : Nat → α := fun j => if j = i then x else f j
theorem p_make (h : trS A S sr mn tn) {sort : Int32} {i k : Nat} (hi : i < 4) (hk : k ≤ 60) (hs : 0 ≤ sort.toInt ∧ sort.toInt ≤ 3) : trS A (su (su (su S (73 + 2 * i) (.inr (9, [.ref (A (74 + 2 * i)), .int sort, .int (nI (mn i))]))) (73 + 2 * i) (.inr (9, [.ref (A (74 + 2 * i)), .int sort, .int (nI k)]))) (74 + 2 * i) (.inl (1, 60, .inr (.inl (fillF (tn i) 0 60))))) (fnu sr i sort) (fnu mn i k) (fnu tn i (fillF (tn i) 0 60)) := by
  refine ⟨?_, fun j hj => ?_⟩
  · simp [su, h.1, show ¬ 1 = 73 + 2 * i by omega, show ¬ 1 = 74 + 2 * i by omega]
  · obtain ⟨h1, h2, h3, h4⟩ := h.2 j hj
    by_cases e : j = i
    · subst e
      refine ⟨?_, ?_, ?_, ?_⟩
      · simp [su, fnu, show ¬ 73 + 2 * j = 74 + 2 * j by omega]
      · simp [su, fnu]
      · simp [fnu, hk]
      · simp [fnu, hs]
    · have e2 : ¬ 2 * j = 2 * i := by omega
      refine ⟨?_, ?_, ?_, ?_⟩
      · simp [su, fnu, e, e2, h1, show ¬ 73 + 2 * j = 74 + 2 * i by omega]
      · simp [su, fnu, e, e2, h2, show ¬ 74 + 2 * j = 73 + 2 * i by omega]
      · simp [fnu, e, h3]
      · simp [fnu, e, h4]
theorem x_tray_ok (hO : XO E ah A) (hX : S 0 = xO A tx sp hT eC tL st) (h : trS A S sr mn tn) {sort : Int32} {i k : Nat} (hi : i < 4) (hk : k ≤ 60) (hs : 0 ≤ sort.toInt ∧ sort.toInt ≤ 3) : ∃ S', EV E (c + 2) 146 [.ref (A 0), .int (nI i), .int sort, .int (nI k)] (oh E ah A S) (some (.int 1)) (oh E ah A S') ∧ S' 0 = xO A tx sp hT eC tL 0 ∧ trS A S' (fnu sr i sort) (fnu mn i k) (fnu tn i (fillF (tn i) 0 60)) ∧ ∀ j, j ≠ 0 → j < 73 ∨ 80 < j → S' j = S j := by
  have hc := hO.c0 hX
  have h' : trS A (su S 0 (xO A tx sp hT eC tL 0)) sr mn tn := h.x
  have e1 : tst sort (nI k) = 0 := by
    have := nI_toInt (show k < 2 ^ 31 by omega)
    simp [tst, hs, this, show ¬ 60 < (k : Int) by omega, show ¬ (k : Int) < 0 by omega]
  have n1 : ¬ 73 + 2 * i = 0 := by omega
  have n2 : ¬ 74 + 2 * i = 0 := by omega
  have n3 : ¬ 0 = 73 + 2 * i := by omega
  have n4 : ¬ 0 = 74 + 2 * i := by omega
  refine ⟨_, e146 ?_, ?_, p_make h' hi hk hs, ?_⟩
  · have hX' := hX
    unfold xO at hX' h' ⊢
    simp only [r146_0, r146_1, r146_5, r146_5n, r146_7, r146_8, r146_8n, r146_10, r146_11, r146_15, r146_18, r146_19, r146_22, r146_25, r146_25n, r146_27, r146_28, r146_32, r146_33, r146_36, r146_39, r146_40, r146_43, r146_44 (x := 0) (Or.inl rfl), r146_44 (x := 1) (Or.inr rfl), r146_44 (b2i_or _), q146_2 (c_trayAt hO hX h hi) hc, oGF_is, WPo_some, List.getElem?_cons_succ, List.getElem?_cons_zero, kil_n, kil_i, kil_a, kil_u, kil_l, Option.toList_some, Option.toList_none, List.cons_append, List.nil_append, List.set_cons_succ, List.set_cons_zero, addm1, Nat.reduceAdd, List.length_cons, List.length_nil, Nat.reduceLT, q146_12 c_newTraySt, hx_0 hO, hX', pf_10150, sx_0 hO, su, e1, not_true_eq_false, not_false_eq_true, if_true, if_false, or_self, and_self, true_and, and_true, or_true, true_or, false_or, or_false, false_and, and_false, q146_29 (c_make hO h' hi) (hO.c73 h' hi), n3, n4]
  · simp [su, n3, n4]
  · intro j h1 h2
    simp [su, h1, show ¬ j = 73 + 2 * i by omega, show ¬ j = 74 + 2 * i by omega]
/-- STATUS of write and read -/
noncomputable def plSt (sr : Nat → Int32) (mn : Nat → Nat) (tray place : Int32) : Int32 := if ¬ (0 ≤ tray.toInt ∧ tray.toInt ≤ 3) then 1 else if sr tray.toInt.toNat = -1 then 3 else if ¬ (0 ≤ place.toInt ∧ place.toInt < mn tray.toInt.toNat) then 4 else 0
theorem c_filled {p a k : Nat} {s : Int32} {N : Nat → Int64} {ah : aHp} (h : TR E ah p a s k N) : EV E (c + 1) 185 [.ref p] ah (some (.int (if s = -1 then 3 else 0))) ah := by
  refine e185 ?_
  simp only [r185_0, r185_0n, r185_1, r185_1n, r185_4, r185_5, r185_6, r185_6n, r185_10, r185_13, r185_14, r185_17, r185_18, q185_7 (c_isMissing h) h.ci, oGF_is, WPo_some, List.getElem?_cons_succ, List.getElem?_cons_zero, kil_n, kil_i, kil_a, kil_u, kil_l, Option.toList_some, Option.toList_none, List.cons_append, List.nil_append, List.set_cons_succ, List.set_cons_zero, addm1, Nat.reduceAdd, List.length_cons, List.length_nil, Nat.reduceLT, b2i_eq0]
  by_cases h1 : s = -1
  · simp only [h1, not_true_eq_false, not_false_eq_true, if_true, if_false, or_self, and_self, true_and, and_true, or_true, true_or, false_or, or_false, false_and, and_false]
  · simp only [h1, not_true_eq_false, not_false_eq_true, if_true, if_false, or_self, and_self, true_and, and_true, or_true, true_or, false_or, or_false, false_and, and_false]
theorem c_filled_no {ah : aHp} : EV E c 185 [.null] ah (some (.int 1)) ah := by
  refine e185n0 ?_
  simp only [r185_0, r185_0n, r185_1, r185_1n, r185_4, r185_5, r185_6, r185_6n, r185_10, r185_13, r185_14, r185_17, r185_18, not_true_eq_false, not_false_eq_true, if_true, if_false, or_self, and_self, true_and, and_true, or_true, true_or, false_or, or_false, false_and, and_false]
theorem c_placeSt {p a k : Nat} {s : Int32} {N : Nat → Int64} {ah : aHp} (h : TR E ah p a s k N) {i : Int32} : EV E (c + 2) 186 [.ref p, .int i] ah (some (.int (if s = -1 then 3 else if ¬ (0 ≤ i.toInt ∧ i.toInt < k) then 4 else 0))) ah := by
  refine e186 ?_
  simp only [r186_0, r186_0n, r186_4, r186_5, r186_6, r186_9, r186_10, r186_11, r186_11n, r186_12, r186_16, r186_19, r186_20, r186_23, r186_24, q186_1 (c_filled h), oGF_is, WPo_some, List.getElem?_cons_succ, List.getElem?_cons_zero, kil_n, kil_i, kil_a, kil_u, kil_l, Option.toList_some, Option.toList_none, List.cons_append, List.nil_append, List.set_cons_succ, List.set_cons_zero, addm1, Nat.reduceAdd, List.length_cons, List.length_nil, Nat.reduceLT, q186_13 (c_hasPlace h) h.ci, b2i_eq0]
  by_cases h1 : s = -1
  · have e2 : ¬ (3 : Int32) = 0 := by decide
    simp only [h1, e2, not_true_eq_false, not_false_eq_true, if_true, if_false, or_self, and_self, true_and, and_true, or_true, true_or, false_or, or_false, false_and, and_false]
  · by_cases h2 : 0 ≤ i.toInt ∧ i.toInt < k
    · simp only [h1, h2, not_true_eq_false, not_false_eq_true, if_true, if_false, or_self, and_self, true_and, and_true, or_true, true_or, false_or, or_false, false_and, and_false]
    · simp only [h1, h2, not_true_eq_false, not_false_eq_true, if_true, if_false, or_self, and_self, true_and, and_true, or_true, true_or, false_or, or_false, false_and, and_false]
theorem c_placeSt_no {ah : aHp} {i : Int32} : EV E (c + 1) 186 [.null, .int i] ah (some (.int 1)) ah := by
  refine e186n0 ?_
  have e2 : ¬ (1 : Int32) = 0 := by decide
  simp only [r186_0, r186_0n, r186_4, r186_5, r186_6, r186_9, r186_10, r186_11, r186_11n, r186_12, r186_16, r186_19, r186_20, r186_23, r186_24, q186_1n0 c_filled_no, oGF_is, WPo_some, List.getElem?_cons_succ, List.getElem?_cons_zero, kil_n, kil_i, kil_a, kil_u, kil_l, Option.toList_some, Option.toList_none, List.cons_append, List.nil_append, List.set_cons_succ, List.set_cons_zero, addm1, Nat.reduceAdd, List.length_cons, List.length_nil, Nat.reduceLT, e2, not_true_eq_false, not_false_eq_true, if_true, if_false, or_self, and_self, true_and, and_true, or_true, true_or, false_or, or_false, false_and, and_false]
theorem plSt_i {i : Nat} (hi : i < 4) {place : Int32} : plSt sr mn (nI i) place = if sr i = -1 then 3 else if ¬ (0 ≤ place.toInt ∧ place.toInt < mn i) then 4 else 0 := by
  have h1 := nI_toInt (show i < 2 ^ 31 by omega)
  unfold plSt
  rw [h1, if_neg (not_not_intro ⟨by omega, by omega⟩)]
  rfl
theorem x_read (hO : XO E ah A) (hX : S 0 = xO A tx sp hT eC tL st) (h : trS A S sr mn tn) {tray place : Int32} : EV E (c + 3) 148 [.ref (A 0), .int tray, .int place] (oh E ah A S) (some (.long (if plSt sr mn tray place = 0 then tn tray.toInt.toNat place.toInt.toNat else -1))) (oh E ah A (su S 0 (xO A tx sp hT eC tL (plSt sr mn tray place)))) := by
  refine e148 ?_
  have hc := hO.c0 hX
  by_cases h1 : 0 ≤ tray.toInt ∧ tray.toInt ≤ 3
  · obtain ⟨i, hi, rfl⟩ := i32_nat (n := 4) h1.1 (by omega)
    have h2 := nI_toInt (show i < 2 ^ 31 by omega)
    have hT1 := h.TR hO hi
    have e1 := plSt_i (sr := sr) (mn := mn) hi (place := place)
    have hX' := hX
    have h' : ∀ st, trS A (su S 0 (xO A tx sp hT eC tL st)) sr mn tn := fun st => h.x
    unfold xO at hX' h' ⊢
    by_cases h3 : plSt sr mn (nI i) place = 0
    · have h4 : 0 ≤ place.toInt ∧ place.toInt < mn i := by
        rw [h3] at e1
        by_cases z : 0 ≤ place.toInt ∧ place.toInt < mn i
        · exact z
        · rw [if_pos z] at e1
          split at e1 <;> exact absurd e1 (by decide)
      have hne : ¬ sr i = -1 := fun z => by
        rw [h3, if_pos z] at e1
        exact absurd e1 (by decide)
      obtain ⟨j, hj, rfl⟩ := i32_nat (n := mn i) h4.1 h4.2
      have hm := (h.2 i hi).2.2.1
      have h5 := nI_toInt (show j < 2 ^ 31 by omega)
      simp only [r148_0, r148_1, r148_5, r148_5n, r148_6, r148_7, r148_7n, r148_8, r148_12, r148_15, r148_16, r148_19, r148_22, r148_22n, r148_23, r148_27, r148_30, r148_33, q148_2 (c_trayAt hO hX h hi) hc, oGF_is, WPo_some, List.getElem?_cons_succ, List.getElem?_cons_zero, kil_n, kil_i, kil_a, kil_u, kil_l, Option.toList_some, Option.toList_none, List.cons_append, List.nil_append, List.set_cons_succ, List.set_cons_zero, addm1, Nat.reduceAdd, List.length_cons, List.length_nil, Nat.reduceLT, q148_9 (c_placeSt hT1), h3, hne, show (0 : Int) ≤ (j : Int) by omega, show (j : Int) < (mn i : Int) by omega, hx_0 hO, hX', pf_10150, sx_0 hO, su, not_true_eq_false, not_false_eq_true, if_true, if_false, or_self, and_self, true_and, and_true, or_true, true_or, false_or, or_false, false_and, and_false, q148_24 (c_at ((h' 0).TR hO hi) hj) ((h' 0).TR hO hi).ci, h2, h5, Int.toNat_natCast]
    · simp only [r148_0, r148_1, r148_5, r148_5n, r148_6, r148_7, r148_7n, r148_8, r148_12, r148_15, r148_16, r148_19, r148_22, r148_22n, r148_23, r148_27, r148_30, r148_33, q148_2 (c_trayAt hO hX h hi) hc, oGF_is, WPo_some, List.getElem?_cons_succ, List.getElem?_cons_zero, kil_n, kil_i, kil_a, kil_u, kil_l, Option.toList_some, Option.toList_none, List.cons_append, List.nil_append, List.set_cons_succ, List.set_cons_zero, addm1, Nat.reduceAdd, List.length_cons, List.length_nil, Nat.reduceLT, q148_9 (c_placeSt hT1), ← e1, h3, hx_0 hO, hX', pf_10150, sx_0 hO, su, not_true_eq_false, not_false_eq_true, if_true, if_false, or_self, and_self, true_and, and_true, or_true, true_or, false_or, or_false, false_and, and_false]
  · have e1 : plSt sr mn tray place = 1 := by simp only [plSt, h1, not_true_eq_false, not_false_eq_true, if_true, if_false, or_self, and_self, true_and, and_true, or_true, true_or, false_or, or_false, false_and, and_false]
    have e2 : ¬ (1 : Int32) = 0 := by decide
    have hX' := hX
    unfold xO at hX' ⊢
    simp only [r148_0, r148_1, r148_5, r148_5n, r148_6, r148_7, r148_7n, r148_8, r148_12, r148_15, r148_16, r148_19, r148_22, r148_22n, r148_23, r148_27, r148_30, r148_33, q148_2 (c_trayAt_no h1) hc, oGF_is, WPo_some, List.getElem?_cons_succ, List.getElem?_cons_zero, kil_n, kil_i, kil_a, kil_u, kil_l, Option.toList_some, Option.toList_none, List.cons_append, List.nil_append, List.set_cons_succ, List.set_cons_zero, addm1, Nat.reduceAdd, List.length_cons, List.length_nil, Nat.reduceLT, q148_9n0 c_placeSt_no, e1, hx_0 hO, hX', pf_10150, sx_0 hO, su, e2, not_true_eq_false, not_false_eq_true, if_true, if_false, or_self, and_self, true_and, and_true, or_true, true_or, false_or, or_false, false_and, and_false]
theorem c_lay (hO : XO E ah A) (h : trS A S sr mn tn) {i j : Nat} (hi : i < 4) (hj : j < mn i) {x : Int64} : EV E (c + 1) 140 [.ref (A (73 + 2 * i)), .int (nI j), .long x] (oh E ah A S) none (oh E ah A (su S (74 + 2 * i) (.inl (1, 60, .inr (.inl (vp_updL (tn i) j (cutF (sr i) x))))))) := by
  have hT1 := h.TR hO hi
  have hm := hT1.2.2
  refine e140 ?_
  have s2 : ∀ S e, hs E (oh E ah A S) (A (74 + 2 * i)) e = oh E ah A (su S (74 + 2 * i) e) := fun S e => hO.s (by omega)
  simp only [r140_0, r140_1, r140_5, r140_8, r140_9, r140_12, r140_13, r140_14, r140_18, r140_19, q140_2 (c_hasPlace hT1) hT1.ci, oGF_is, WPo_some, List.getElem?_cons_succ, List.getElem?_cons_zero, kil_n, kil_i, kil_a, kil_u, kil_l, Option.toList_some, Option.toList_none, List.cons_append, List.nil_append, List.set_cons_succ, List.set_cons_zero, addm1, Nat.reduceAdd, List.length_cons, List.length_nil, Nat.reduceLT, nI_toInt (show j < 2 ^ 31 by omega), b2i_eq0, show (0 : Int) ≤ (j : Int) by omega, show (j : Int) < (mn i : Int) by omega, not_true_eq_false, not_false_eq_true, if_true, if_false, or_self, and_self, true_and, and_true, or_true, true_or, false_or, or_false, false_and, and_false, hT1.1, q140_15 (c_cut hT1) hT1.ci, pL_at hT1.2.1 (vp_in_nI (show j < 60 by omega) (by omega)), nI_clamp (show j < 2 ^ 31 by omega), s2]
theorem p_lay (h : trS A S sr mn tn) {i : Nat} (hi : i < 4) {N : Nat → Int64} : trS A (su S (74 + 2 * i) (.inl (1, 60, .inr (.inl N)))) sr mn (fnu tn i N) := by
  refine ⟨?_, fun j hj => ?_⟩
  · simp [su, h.1, show ¬ 1 = 74 + 2 * i by omega]
  · obtain ⟨h1, h2, h3, h4⟩ := h.2 j hj
    by_cases e : j = i
    · subst e
      exact ⟨by simp [su, h1, show ¬ 73 + 2 * j = 74 + 2 * j by omega], by simp [su, fnu], h3, h4⟩
    · have e2 : ¬ 2 * j = 2 * i := by omega
      exact ⟨by simp [su, h1, show ¬ 73 + 2 * j = 74 + 2 * i by omega], by simp [su, fnu, e, e2, h2], h3, h4⟩
theorem x_write_no (hO : XO E ah A) (hX : S 0 = xO A tx sp hT eC tL st) (h : trS A S sr mn tn) {tray place : Int32} {x : Int64} (hs : ¬ plSt sr mn tray place = 0) : EV E (c + 3) 147 [.ref (A 0), .int tray, .int place, .long x] (oh E ah A S) (some (.int 0)) (oh E ah A (su S 0 (xO A tx sp hT eC tL (plSt sr mn tray place)))) := by
  refine e147 ?_
  have hc := hO.c0 hX
  by_cases h1 : 0 ≤ tray.toInt ∧ tray.toInt ≤ 3
  · obtain ⟨i, hi, rfl⟩ := i32_nat (n := 4) h1.1 (by omega)
    have hT1 := h.TR hO hi
    have e1 := plSt_i (sr := sr) (mn := mn) hi (place := place)
    have hX' := hX
    unfold xO at hX' ⊢
    simp only [r147_0, r147_1, r147_5, r147_5n, r147_7, r147_8, r147_8n, r147_10, r147_14, r147_17, r147_18, r147_21, r147_24, r147_24n, r147_26, r147_27, r147_31, r147_32, r147_35, r147_38, r147_39, r147_42, r147_43 (x := 0) (Or.inl rfl), r147_43 (x := 1) (Or.inr rfl), r147_43 (b2i_or _), q147_2 (c_trayAt hO hX h hi) hc, oGF_is, WPo_some, List.getElem?_cons_succ, List.getElem?_cons_zero, kil_n, kil_i, kil_a, kil_u, kil_l, Option.toList_some, Option.toList_none, List.cons_append, List.nil_append, List.set_cons_succ, List.set_cons_zero, addm1, Nat.reduceAdd, List.length_cons, List.length_nil, Nat.reduceLT, q147_11 (c_placeSt hT1), ← e1, hs, hx_0 hO, hX', pf_10150, sx_0 hO, su, not_true_eq_false, not_false_eq_true, if_true, if_false, or_self, and_self, true_and, and_true, or_true, true_or, false_or, or_false, false_and, and_false]
  · have e1 : plSt sr mn tray place = 1 := by simp only [plSt, h1, not_true_eq_false, not_false_eq_true, if_true, if_false, or_self, and_self, true_and, and_true, or_true, true_or, false_or, or_false, false_and, and_false]
    have e2 : ¬ (1 : Int32) = 0 := by decide
    have hX' := hX
    unfold xO at hX' ⊢
    simp only [r147_0, r147_1, r147_5, r147_5n, r147_7, r147_8, r147_8n, r147_10, r147_14, r147_17, r147_18, r147_21, r147_24, r147_24n, r147_26, r147_27, r147_31, r147_32, r147_35, r147_38, r147_39, r147_42, r147_43 (x := 0) (Or.inl rfl), r147_43 (x := 1) (Or.inr rfl), r147_43 (b2i_or _), q147_2 (c_trayAt_no h1) hc, oGF_is, WPo_some, List.getElem?_cons_succ, List.getElem?_cons_zero, kil_n, kil_i, kil_a, kil_u, kil_l, Option.toList_some, Option.toList_none, List.cons_append, List.nil_append, List.set_cons_succ, List.set_cons_zero, addm1, Nat.reduceAdd, List.length_cons, List.length_nil, Nat.reduceLT, q147_11n0 c_placeSt_no, e1, hx_0 hO, hX', pf_10150, sx_0 hO, su, e2, not_true_eq_false, not_false_eq_true, if_true, if_false, or_self, and_self, true_and, and_true, or_true, true_or, false_or, or_false, false_and, and_false]
theorem plSt_0 {tray place : Int32} (h : plSt sr mn tray place = 0) : ∃ i j, i < 4 ∧ tray = nI i ∧ ¬ sr i = -1 ∧ j < mn i ∧ place = nI j := by
  unfold plSt at h
  repeat' split at h
  all_goals first | (exfalso; revert h; decide) | skip
  rename_i h1 h2 h3
  obtain ⟨h1a, h1b⟩ := Classical.not_not.mp h1
  obtain ⟨i, hi, rfl⟩ := i32_nat (n := 4) h1a (by omega)
  rw [nI_toInt (show i < 2 ^ 31 by omega)] at h2 h3
  obtain ⟨h3a, h3b⟩ := Classical.not_not.mp h3
  obtain ⟨j, hj, rfl⟩ := i32_nat (n := mn i) h3a h3b
  exact ⟨i, j, hi, rfl, h2, hj, rfl⟩
theorem x_write_ok (hO : XO E ah A) (hX : S 0 = xO A tx sp hT eC tL st) (h : trS A S sr mn tn) {i j : Nat} (hi : i < 4) (hne : ¬ sr i = -1) (hj : j < mn i) {x : Int64} : ∃ S', EV E (c + 3) 147 [.ref (A 0), .int (nI i), .int (nI j), .long x] (oh E ah A S) (some (.int 1)) (oh E ah A S') ∧ S' 0 = xO A tx sp hT eC tL 0 ∧ trS A S' sr mn (fnu tn i (vp_updL (tn i) j (cutF (sr i) x))) ∧ ∀ j, j ≠ 0 → j < 73 ∨ 80 < j → S' j = S j := by
  have hc := hO.c0 hX
  have hT1 := h.TR hO hi
  have hm := hT1.2.2
  have h' : trS A (su S 0 (xO A tx sp hT eC tL 0)) sr mn tn := h.x
  have n4 : ¬ 0 = 74 + 2 * i := by omega
  refine ⟨_, e147 ?_, ?_, p_lay h' hi, ?_⟩
  · have hX' := hX
    unfold xO at hX' h' ⊢
    simp only [r147_0, r147_1, r147_5, r147_5n, r147_7, r147_8, r147_8n, r147_10, r147_14, r147_17, r147_18, r147_21, r147_24, r147_24n, r147_26, r147_27, r147_31, r147_32, r147_35, r147_38, r147_39, r147_42, r147_43 (x := 0) (Or.inl rfl), r147_43 (x := 1) (Or.inr rfl), r147_43 (b2i_or _), q147_2 (c_trayAt hO hX h hi) hc, oGF_is, WPo_some, List.getElem?_cons_succ, List.getElem?_cons_zero, kil_n, kil_i, kil_a, kil_u, kil_l, Option.toList_some, Option.toList_none, List.cons_append, List.nil_append, List.set_cons_succ, List.set_cons_zero, addm1, Nat.reduceAdd, List.length_cons, List.length_nil, Nat.reduceLT, q147_11 (c_placeSt hT1), hne, nI_toInt (show j < 2 ^ 31 by omega), show (0 : Int) ≤ (j : Int) by omega, show (j : Int) < (mn i : Int) by omega, hx_0 hO, hX', pf_10150, sx_0 hO, su, not_true_eq_false, not_false_eq_true, if_true, if_false, or_self, and_self, true_and, and_true, or_true, true_or, false_or, or_false, false_and, and_false, q147_28 (c_lay hO h' hi hj) (hO.c73 h' hi), n4]
  · simp [su, n4]
  · intro j h1 h2
    simp [su, h1, show ¬ j = 74 + 2 * i by omega]
end TRX2

/-! THE MODEL'S OBJECT AND ROWS AS ONE STATE: v the single fields, ai the rows of ints (bytes, truth values), al the rows of longs, by the numbers of the fields -/
/-- kind of a field: 0 ints, 1 longs, 2 bytes, 3 truth values (rows, with their lengths); 10, 11, 13 single ones -/
noncomputable def mkt : List (Nat × Nat) := [(10, 0), (10, 0), (0, 4), (0, 4), (1, 240), (10, 0), (0, 4), (0, 4), (0, 4), (0, 48), (0, 336), (0, 84), (0, 4), (0, 80), (0, 80), (0, 80), (0, 80), (3, 12), (10, 0), (10, 0), (10, 0), (10, 0), (10, 0), (10, 0), (10, 0), (10, 0), (1, 7), (1, 60), (2, 500), (10, 0), (10, 0), (10, 0), (10, 0), (10, 0), (10, 0), (10, 0), (10, 0), (10, 0), (10, 0), (11, 0), (11, 0), (10, 0), (10, 0), (0, 40), (0, 40), (0, 40), (0, 40), (0, 40), (0, 40), (0, 40), (0, 40), (0, 40), (0, 40), (0, 40), (0, 40), (0, 40), (1, 40), (1, 40), (1, 20), (1, 40), (13, 0), (13, 0), (10, 0), (10, 0), (10, 0), (10, 0), (10, 0), (0, 28), (0, 13), (0, 14), (1, 20), (1, 20), (1, 1600), (0, 20), (10, 0), (0, 2), (0, 2), (10, 0), (10, 0), (10, 0), (10, 0), (10, 0), (10, 0), (0, 100), (0, 100), (0, 20), (0, 20), (0, 60), (0, 60), (0, 60), (0, 7), (0, 7), (0, 7), (0, 7), (0, 7), (0, 4), (1, 5), (0, 2), (0, 2)]
noncomputable def mtg (k : Nat) : Nat := ((mkt[k]?).getD (99, 0)).1
noncomputable def mln (k : Nat) : Nat := ((mkt[k]?).getD (99, 0)).2
noncomputable def mF (ma : Nat → Nat) (v : Nat → Value) : List Value := (List.range 99).map fun k => if mtg k < 4 then .ref (ma k) else v k
noncomputable def mcl (k : Nat) (ai : Nat → Nat → Int32) (al : Nat → Nat → Int64) : aE := .inl (mtg k, mln k, if mtg k = 1 then .inr (.inl (al k)) else .inl (ai k))
noncomputable def mfd (ma : Nat → Nat) (q : Nat) : Option Nat := (List.range 99).find? fun k => decide (mtg k < 4) && (ma k == q)
noncomputable def mca (m : Nat) (ma : Nat → Nat) (v : Nat → Value) (ai : Nat → Nat → Int32) (al : Nat → Nat → Int64) (q : Nat) (e : aE) : aE := if q = m then .inr (11, mF ma v) else match mfd ma q with
  | some k => mcl k ai al
  | none => e
/-- the heap with the model's cells as the state has them -/
noncomputable def mh (E : aEnv) (ah : aHp) (m : Nat) (ma : Nat → Nat) (v : Nat → Value) (ai : Nat → Nat → Int32) (al : Nat → Nat → Int64) : aHp := ah.mapIdx fun i e => mca m ma v ai al (E.1 + i) e
/-- the model's cells are there, and apart -/
noncomputable def MO (E : aEnv) (ah : aHp) (m : Nat) (ma : Nat → Nat) : Prop := (∃ e, hg E ah m = some e) ∧ (∀ k, k < 99 → mtg k < 4 → (∃ e, hg E ah (ma k) = some e) ∧ ma k ≠ m) ∧ ∀ j k, j < 99 → k < 99 → mtg j < 4 → mtg k < 4 → ma j = ma k → j = k
noncomputable def vu (v : Nat → Value) (k : Nat) (x : Value) : Nat → Value := fun j => if j = k then x else v j
noncomputable def iu (a : Nat → Nat → Int32) (k : Nat) (g : Nat → Int32) : Nat → Nat → Int32 := fun j => if j = k then g else a j
noncomputable def lu (a : Nat → Nat → Int64) (k : Nat) (g : Nat → Int64) : Nat → Nat → Int64 := fun j => if j = k then g else a j
theorem hp_ext {E : aEnv} {a b : aHp} (hl : a.length = b.length) (h : ∀ q, E.1 ≤ q → hg E a q = hg E b q) : a = b := by
  apply List.ext_getElem?
  intro i
  have h1 := h (E.1 + i) (Nat.le_add_right _ _)
  unfold hg at h1
  rw [if_pos (Nat.le_add_right _ _), if_pos (Nat.le_add_right _ _), Nat.add_sub_cancel_left] at h1
  exact h1
section MH
variable {E : aEnv} {ah : aHp} {m : Nat} {ma : Nat → Nat} {v : Nat → Value} {ai : Nat → Nat → Int32} {al : Nat → Nat → Int64}
theorem mh_len : (mh E ah m ma v ai al).length = ah.length := by simp [mh]
theorem mh_hg (q : Nat) : hg E (mh E ah m ma v ai al) q = (hg E ah q).map (mca m ma v ai al q) := by
  unfold hg mh
  split
  · next h =>
    rw [List.getElem?_mapIdx, Nat.add_sub_cancel' h]
  · rfl
theorem mh_o (h : MO E ah m ma) : hg E (mh E ah m ma v ai al) m = some (.inr (11, mF ma v)) := by
  obtain ⟨e, he⟩ := h.1
  rw [mh_hg, he]
  simp [mca]
theorem mfd_k (h : MO E ah m ma) {k : Nat} (hk : k < 99) (ht : mtg k < 4) : mfd ma (ma k) = some k := by
  unfold mfd
  cases hf : (List.range 99).find? (fun j => decide (mtg j < 4) && (ma j == ma k)) with
  | none =>
    have := List.find?_eq_none.mp hf k (List.mem_range.mpr hk)
    simp [ht] at this
  | some j =>
    have h1 := List.find?_some hf
    have h2 := List.mem_range.mp (List.mem_of_find?_eq_some hf)
    simp only [Bool.and_eq_true, decide_eq_true_eq, beq_iff_eq] at h1
    rw [h.2.2 j k h2 hk h1.1 ht h1.2]
theorem mh_k (h : MO E ah m ma) {k : Nat} (hk : k < 99) (ht : mtg k < 4) : hg E (mh E ah m ma v ai al) (ma k) = some (mcl k ai al) := by
  obtain ⟨⟨e, he⟩, hne⟩ := h.2.1 k hk ht
  rw [mh_hg, he]
  simp [mca, hne, mfd_k h hk ht]
theorem mh_other {q : Nat} (h1 : q ≠ m) (h2 : ∀ k, k < 99 → mtg k < 4 → ma k ≠ q) : hg E (mh E ah m ma v ai al) q = hg E ah q := by
  rw [mh_hg]
  have hf : mfd ma q = none := by
    unfold mfd
    rw [List.find?_eq_none]
    intro k hk
    simp only [Bool.and_eq_true, decide_eq_true_eq, beq_iff_eq, not_and]
    exact fun ht => h2 k (List.mem_range.mp hk) ht
  cases hg E ah q with
  | none => rfl
  | some e => simp [mca, h1, hf]
/-- a heap equation, by what stands at each address -/
theorem mh_eq {h2 : aHp} {v' : Nat → Value} {ai' : Nat → Nat → Int32} {al' : Nat → Nat → Int64} {a : Nat} {e' : aE} (hs2 : ∃ e0, hg E (mh E ah m ma v ai al) a = some e0) (hq : ∀ q e, hg E ah q = some e → mca m ma v' ai' al' q e = if q = a then e' else mca m ma v ai al q e) : hs E (mh E ah m ma v ai al) a e' = mh E ah m ma v' ai' al' := by
  apply hp_ext (E := E)
  · rw [hs_len, mh_len, mh_len]
  · intro q hb
    by_cases h : a = q
    · subst h
      obtain ⟨e0, he0⟩ := hs2
      rw [hg_same he0, mh_hg]
      rw [mh_hg] at he0
      obtain ⟨e, he, -⟩ := Option.map_eq_some_iff.mp he0
      rw [he]
      simp [hq a e he]
    · rw [hg_ne h, mh_hg, mh_hg]
      cases he : hg E ah q with
      | none => rfl
      | some e =>
        simp only [Option.map_some]
        rw [hq q e he, if_neg (fun z => h z.symm)]
theorem mh_put (h : MO E ah m ma) {v' : Nat → Value} : hs E (mh E ah m ma v ai al) m (.inr (11, mF ma v')) = mh E ah m ma v' ai al := by
  refine mh_eq (h2 := ah) ⟨_, mh_o h⟩ fun q e he => ?_
  unfold mca
  by_cases hq : q = m <;> simp [hq]
theorem mca_k {q k : Nat} {e : aE} (h1 : q ≠ m) (h2 : mfd ma q = some k) : mca m ma v ai al q e = mcl k ai al := by simp [mca, h1, h2]
theorem mfd_is {q k : Nat} (h : mfd ma q = some k) : k < 99 ∧ mtg k < 4 ∧ ma k = q := by
  unfold mfd at h
  have h1 := List.find?_some h
  simp only [Bool.and_eq_true, decide_eq_true_eq, beq_iff_eq] at h1
  exact ⟨List.mem_range.mp (List.mem_of_find?_eq_some h), h1.1, h1.2⟩
theorem mh_ai (h : MO E ah m ma) {k : Nat} (hk : k < 99) (ht : mtg k < 4) (h1 : mtg k ≠ 1) {g : Nat → Int32} : hs E (mh E ah m ma v ai al) (ma k) (.inl (mtg k, mln k, .inl g)) = mh E ah m ma v (iu ai k g) al := by
  refine mh_eq (h2 := ah) ⟨_, mh_k h hk ht⟩ fun q e he => ?_
  by_cases hq : q = m
  · have : ¬ m = ma k := fun z => (h.2.1 k hk ht).2 z.symm
    subst hq
    simp [mca, this]
  · cases hf : mfd ma q with
    | none =>
      have : ¬ q = ma k := fun z => by rw [z, mfd_k h hk ht] at hf; cases hf
      simp [mca, hq, hf, this]
    | some j =>
      rw [mca_k hq hf, mca_k hq hf]
      obtain ⟨j1, j2, j3⟩ := mfd_is hf
      by_cases hj : j = k
      · subst hj
        simp [mcl, h1, j3, iu]
      · have : ¬ q = ma k := fun z => hj (h.2.2 j k j1 hk j2 ht (j3.trans z))
        simp [mcl, this, iu, hj]
theorem mh_al (h : MO E ah m ma) {k : Nat} (hk : k < 99) (h1 : mtg k = 1) {g : Nat → Int64} : hs E (mh E ah m ma v ai al) (ma k) (.inl (1, mln k, .inr (.inl g))) = mh E ah m ma v ai (lu al k g) := by
  have ht : mtg k < 4 := by omega
  refine mh_eq (h2 := ah) ⟨_, mh_k h hk ht⟩ fun q e he => ?_
  by_cases hq : q = m
  · have : ¬ m = ma k := fun z => (h.2.1 k hk ht).2 z.symm
    subst hq
    simp [mca, this]
  · cases hf : mfd ma q with
    | none =>
      have : ¬ q = ma k := fun z => by rw [z, mfd_k h hk ht] at hf; cases hf
      simp [mca, hq, hf, this]
    | some j =>
      rw [mca_k hq hf, mca_k hq hf]
      obtain ⟨j1, j2, j3⟩ := mfd_is hf
      by_cases hj : j = k
      · subst hj
        simp [mcl, h1, j3, lu]
      · have : ¬ q = ma k := fun z => hj (h.2.2 j k j1 hk j2 ht (j3.trans z))
        simp [mcl, this, lu, hj]
theorem mF_at {k : Nat} (hk : k < 99) : (mF ma v)[k]? = some (if mtg k < 4 then .ref (ma k) else v k) := by simp [mF, hk]
theorem mF_set {k : Nat} {x : Value} (hk : ¬ mtg k < 4) : (mF ma v).set k x = mF ma (vu v k x) := by
  apply List.ext_getElem?
  intro j
  rw [List.getElem?_set]
  unfold mF
  by_cases h : k = j
  · subst h
    by_cases hl : k < 99 <;> simp [hl, hk, vu]
  · have h' : ¬ j = k := fun z => h z.symm
    by_cases hl : j < 99 <;> simp [h, h', hl, vu]
end MH
theorem mF_len {ma : Nat → Nat} {v : Nat → Value} : (mF ma v).length = 99 := by simp [mF]

theorem gm_0 {ma : Nat → Nat} {v : Nat → Value} : oGF (some (.inr (11, mF ma v))) 11 0 = some (v 0) := by rw [oGF_is, mF_at (by decide), if_neg (by decide +kernel)]
theorem pm_0 {ma : Nat → Nat} {v : Nat → Value} {x : Int32} : oPF (some (.inr (11, mF ma v))) 11000 (.int x) = some (.inr (11, mF ma (vu v 0 (.int x)))) := by rw [oPF_at 11 0 0 rfl (by decide) (by decide) fit_i (by rw [mF_len]; decide), mF_set (by decide +kernel)]
theorem gm_1 {ma : Nat → Nat} {v : Nat → Value} : oGF (some (.inr (11, mF ma v))) 11 1 = some (v 1) := by rw [oGF_is, mF_at (by decide), if_neg (by decide +kernel)]
theorem pm_1 {ma : Nat → Nat} {v : Nat → Value} {x : Int32} : oPF (some (.inr (11, mF ma v))) 11010 (.int x) = some (.inr (11, mF ma (vu v 1 (.int x)))) := by rw [oPF_at 11 1 0 rfl (by decide) (by decide) fit_i (by rw [mF_len]; decide), mF_set (by decide +kernel)]
theorem gm_2 {ma : Nat → Nat} {v : Nat → Value} : oGF (some (.inr (11, mF ma v))) 11 2 = some (.ref (ma 2)) := by rw [oGF_is, mF_at (by decide), if_pos (by decide +kernel)]
theorem hm_2 {E : aEnv} {ah : aHp} {m : Nat} {ma : Nat → Nat} {v : Nat → Value} {ai : Nat → Nat → Int32} {al : Nat → Nat → Int64} (h : MO E ah m ma) : hg E (mh E ah m ma v ai al) (ma 2) = some (.inl (0, 4, .inl (ai 2))) := (mh_k h (by decide) (by decide +kernel)).trans rfl
theorem sm_2 {E : aEnv} {ah : aHp} {m : Nat} {ma : Nat → Nat} {v : Nat → Value} {ai : Nat → Nat → Int32} {al : Nat → Nat → Int64} (h : MO E ah m ma) {g : Nat → Int32} : hs E (mh E ah m ma v ai al) (ma 2) (.inl (0, 4, .inl g)) = mh E ah m ma v (iu ai 2 g) al := mh_ai h (by decide) (by decide +kernel) (by decide +kernel)
theorem gm_3 {ma : Nat → Nat} {v : Nat → Value} : oGF (some (.inr (11, mF ma v))) 11 3 = some (.ref (ma 3)) := by rw [oGF_is, mF_at (by decide), if_pos (by decide +kernel)]
theorem hm_3 {E : aEnv} {ah : aHp} {m : Nat} {ma : Nat → Nat} {v : Nat → Value} {ai : Nat → Nat → Int32} {al : Nat → Nat → Int64} (h : MO E ah m ma) : hg E (mh E ah m ma v ai al) (ma 3) = some (.inl (0, 4, .inl (ai 3))) := (mh_k h (by decide) (by decide +kernel)).trans rfl
theorem sm_3 {E : aEnv} {ah : aHp} {m : Nat} {ma : Nat → Nat} {v : Nat → Value} {ai : Nat → Nat → Int32} {al : Nat → Nat → Int64} (h : MO E ah m ma) {g : Nat → Int32} : hs E (mh E ah m ma v ai al) (ma 3) (.inl (0, 4, .inl g)) = mh E ah m ma v (iu ai 3 g) al := mh_ai h (by decide) (by decide +kernel) (by decide +kernel)
theorem gm_4 {ma : Nat → Nat} {v : Nat → Value} : oGF (some (.inr (11, mF ma v))) 11 4 = some (.ref (ma 4)) := by rw [oGF_is, mF_at (by decide), if_pos (by decide +kernel)]
theorem hm_4 {E : aEnv} {ah : aHp} {m : Nat} {ma : Nat → Nat} {v : Nat → Value} {ai : Nat → Nat → Int32} {al : Nat → Nat → Int64} (h : MO E ah m ma) : hg E (mh E ah m ma v ai al) (ma 4) = some (.inl (1, 240, .inr (.inl (al 4)))) := (mh_k h (by decide) (by decide +kernel)).trans rfl
theorem sm_4 {E : aEnv} {ah : aHp} {m : Nat} {ma : Nat → Nat} {v : Nat → Value} {ai : Nat → Nat → Int32} {al : Nat → Nat → Int64} (h : MO E ah m ma) {g : Nat → Int64} : hs E (mh E ah m ma v ai al) (ma 4) (.inl (1, 240, .inr (.inl g))) = mh E ah m ma v ai (lu al 4 g) := mh_al h (by decide) (by decide +kernel)
theorem gm_5 {ma : Nat → Nat} {v : Nat → Value} : oGF (some (.inr (11, mF ma v))) 11 5 = some (v 5) := by rw [oGF_is, mF_at (by decide), if_neg (by decide +kernel)]
theorem pm_5 {ma : Nat → Nat} {v : Nat → Value} {x : Int32} : oPF (some (.inr (11, mF ma v))) 11050 (.int x) = some (.inr (11, mF ma (vu v 5 (.int x)))) := by rw [oPF_at 11 5 0 rfl (by decide) (by decide) fit_i (by rw [mF_len]; decide), mF_set (by decide +kernel)]
theorem gm_6 {ma : Nat → Nat} {v : Nat → Value} : oGF (some (.inr (11, mF ma v))) 11 6 = some (.ref (ma 6)) := by rw [oGF_is, mF_at (by decide), if_pos (by decide +kernel)]
theorem hm_6 {E : aEnv} {ah : aHp} {m : Nat} {ma : Nat → Nat} {v : Nat → Value} {ai : Nat → Nat → Int32} {al : Nat → Nat → Int64} (h : MO E ah m ma) : hg E (mh E ah m ma v ai al) (ma 6) = some (.inl (0, 4, .inl (ai 6))) := (mh_k h (by decide) (by decide +kernel)).trans rfl
theorem sm_6 {E : aEnv} {ah : aHp} {m : Nat} {ma : Nat → Nat} {v : Nat → Value} {ai : Nat → Nat → Int32} {al : Nat → Nat → Int64} (h : MO E ah m ma) {g : Nat → Int32} : hs E (mh E ah m ma v ai al) (ma 6) (.inl (0, 4, .inl g)) = mh E ah m ma v (iu ai 6 g) al := mh_ai h (by decide) (by decide +kernel) (by decide +kernel)
theorem gm_7 {ma : Nat → Nat} {v : Nat → Value} : oGF (some (.inr (11, mF ma v))) 11 7 = some (.ref (ma 7)) := by rw [oGF_is, mF_at (by decide), if_pos (by decide +kernel)]
theorem hm_7 {E : aEnv} {ah : aHp} {m : Nat} {ma : Nat → Nat} {v : Nat → Value} {ai : Nat → Nat → Int32} {al : Nat → Nat → Int64} (h : MO E ah m ma) : hg E (mh E ah m ma v ai al) (ma 7) = some (.inl (0, 4, .inl (ai 7))) := (mh_k h (by decide) (by decide +kernel)).trans rfl
theorem sm_7 {E : aEnv} {ah : aHp} {m : Nat} {ma : Nat → Nat} {v : Nat → Value} {ai : Nat → Nat → Int32} {al : Nat → Nat → Int64} (h : MO E ah m ma) {g : Nat → Int32} : hs E (mh E ah m ma v ai al) (ma 7) (.inl (0, 4, .inl g)) = mh E ah m ma v (iu ai 7 g) al := mh_ai h (by decide) (by decide +kernel) (by decide +kernel)
theorem gm_8 {ma : Nat → Nat} {v : Nat → Value} : oGF (some (.inr (11, mF ma v))) 11 8 = some (.ref (ma 8)) := by rw [oGF_is, mF_at (by decide), if_pos (by decide +kernel)]
theorem hm_8 {E : aEnv} {ah : aHp} {m : Nat} {ma : Nat → Nat} {v : Nat → Value} {ai : Nat → Nat → Int32} {al : Nat → Nat → Int64} (h : MO E ah m ma) : hg E (mh E ah m ma v ai al) (ma 8) = some (.inl (0, 4, .inl (ai 8))) := (mh_k h (by decide) (by decide +kernel)).trans rfl
theorem sm_8 {E : aEnv} {ah : aHp} {m : Nat} {ma : Nat → Nat} {v : Nat → Value} {ai : Nat → Nat → Int32} {al : Nat → Nat → Int64} (h : MO E ah m ma) {g : Nat → Int32} : hs E (mh E ah m ma v ai al) (ma 8) (.inl (0, 4, .inl g)) = mh E ah m ma v (iu ai 8 g) al := mh_ai h (by decide) (by decide +kernel) (by decide +kernel)
theorem gm_9 {ma : Nat → Nat} {v : Nat → Value} : oGF (some (.inr (11, mF ma v))) 11 9 = some (.ref (ma 9)) := by rw [oGF_is, mF_at (by decide), if_pos (by decide +kernel)]
theorem hm_9 {E : aEnv} {ah : aHp} {m : Nat} {ma : Nat → Nat} {v : Nat → Value} {ai : Nat → Nat → Int32} {al : Nat → Nat → Int64} (h : MO E ah m ma) : hg E (mh E ah m ma v ai al) (ma 9) = some (.inl (0, 48, .inl (ai 9))) := (mh_k h (by decide) (by decide +kernel)).trans rfl
theorem sm_9 {E : aEnv} {ah : aHp} {m : Nat} {ma : Nat → Nat} {v : Nat → Value} {ai : Nat → Nat → Int32} {al : Nat → Nat → Int64} (h : MO E ah m ma) {g : Nat → Int32} : hs E (mh E ah m ma v ai al) (ma 9) (.inl (0, 48, .inl g)) = mh E ah m ma v (iu ai 9 g) al := mh_ai h (by decide) (by decide +kernel) (by decide +kernel)
theorem gm_10 {ma : Nat → Nat} {v : Nat → Value} : oGF (some (.inr (11, mF ma v))) 11 10 = some (.ref (ma 10)) := by rw [oGF_is, mF_at (by decide), if_pos (by decide +kernel)]
theorem hm_10 {E : aEnv} {ah : aHp} {m : Nat} {ma : Nat → Nat} {v : Nat → Value} {ai : Nat → Nat → Int32} {al : Nat → Nat → Int64} (h : MO E ah m ma) : hg E (mh E ah m ma v ai al) (ma 10) = some (.inl (0, 336, .inl (ai 10))) := (mh_k h (by decide) (by decide +kernel)).trans rfl
theorem sm_10 {E : aEnv} {ah : aHp} {m : Nat} {ma : Nat → Nat} {v : Nat → Value} {ai : Nat → Nat → Int32} {al : Nat → Nat → Int64} (h : MO E ah m ma) {g : Nat → Int32} : hs E (mh E ah m ma v ai al) (ma 10) (.inl (0, 336, .inl g)) = mh E ah m ma v (iu ai 10 g) al := mh_ai h (by decide) (by decide +kernel) (by decide +kernel)
theorem gm_11 {ma : Nat → Nat} {v : Nat → Value} : oGF (some (.inr (11, mF ma v))) 11 11 = some (.ref (ma 11)) := by rw [oGF_is, mF_at (by decide), if_pos (by decide +kernel)]
theorem hm_11 {E : aEnv} {ah : aHp} {m : Nat} {ma : Nat → Nat} {v : Nat → Value} {ai : Nat → Nat → Int32} {al : Nat → Nat → Int64} (h : MO E ah m ma) : hg E (mh E ah m ma v ai al) (ma 11) = some (.inl (0, 84, .inl (ai 11))) := (mh_k h (by decide) (by decide +kernel)).trans rfl
theorem sm_11 {E : aEnv} {ah : aHp} {m : Nat} {ma : Nat → Nat} {v : Nat → Value} {ai : Nat → Nat → Int32} {al : Nat → Nat → Int64} (h : MO E ah m ma) {g : Nat → Int32} : hs E (mh E ah m ma v ai al) (ma 11) (.inl (0, 84, .inl g)) = mh E ah m ma v (iu ai 11 g) al := mh_ai h (by decide) (by decide +kernel) (by decide +kernel)
theorem gm_12 {ma : Nat → Nat} {v : Nat → Value} : oGF (some (.inr (11, mF ma v))) 11 12 = some (.ref (ma 12)) := by rw [oGF_is, mF_at (by decide), if_pos (by decide +kernel)]
theorem hm_12 {E : aEnv} {ah : aHp} {m : Nat} {ma : Nat → Nat} {v : Nat → Value} {ai : Nat → Nat → Int32} {al : Nat → Nat → Int64} (h : MO E ah m ma) : hg E (mh E ah m ma v ai al) (ma 12) = some (.inl (0, 4, .inl (ai 12))) := (mh_k h (by decide) (by decide +kernel)).trans rfl
theorem sm_12 {E : aEnv} {ah : aHp} {m : Nat} {ma : Nat → Nat} {v : Nat → Value} {ai : Nat → Nat → Int32} {al : Nat → Nat → Int64} (h : MO E ah m ma) {g : Nat → Int32} : hs E (mh E ah m ma v ai al) (ma 12) (.inl (0, 4, .inl g)) = mh E ah m ma v (iu ai 12 g) al := mh_ai h (by decide) (by decide +kernel) (by decide +kernel)
theorem gm_13 {ma : Nat → Nat} {v : Nat → Value} : oGF (some (.inr (11, mF ma v))) 11 13 = some (.ref (ma 13)) := by rw [oGF_is, mF_at (by decide), if_pos (by decide +kernel)]
theorem hm_13 {E : aEnv} {ah : aHp} {m : Nat} {ma : Nat → Nat} {v : Nat → Value} {ai : Nat → Nat → Int32} {al : Nat → Nat → Int64} (h : MO E ah m ma) : hg E (mh E ah m ma v ai al) (ma 13) = some (.inl (0, 80, .inl (ai 13))) := (mh_k h (by decide) (by decide +kernel)).trans rfl
theorem sm_13 {E : aEnv} {ah : aHp} {m : Nat} {ma : Nat → Nat} {v : Nat → Value} {ai : Nat → Nat → Int32} {al : Nat → Nat → Int64} (h : MO E ah m ma) {g : Nat → Int32} : hs E (mh E ah m ma v ai al) (ma 13) (.inl (0, 80, .inl g)) = mh E ah m ma v (iu ai 13 g) al := mh_ai h (by decide) (by decide +kernel) (by decide +kernel)
theorem gm_14 {ma : Nat → Nat} {v : Nat → Value} : oGF (some (.inr (11, mF ma v))) 11 14 = some (.ref (ma 14)) := by rw [oGF_is, mF_at (by decide), if_pos (by decide +kernel)]
theorem hm_14 {E : aEnv} {ah : aHp} {m : Nat} {ma : Nat → Nat} {v : Nat → Value} {ai : Nat → Nat → Int32} {al : Nat → Nat → Int64} (h : MO E ah m ma) : hg E (mh E ah m ma v ai al) (ma 14) = some (.inl (0, 80, .inl (ai 14))) := (mh_k h (by decide) (by decide +kernel)).trans rfl
theorem sm_14 {E : aEnv} {ah : aHp} {m : Nat} {ma : Nat → Nat} {v : Nat → Value} {ai : Nat → Nat → Int32} {al : Nat → Nat → Int64} (h : MO E ah m ma) {g : Nat → Int32} : hs E (mh E ah m ma v ai al) (ma 14) (.inl (0, 80, .inl g)) = mh E ah m ma v (iu ai 14 g) al := mh_ai h (by decide) (by decide +kernel) (by decide +kernel)
theorem gm_15 {ma : Nat → Nat} {v : Nat → Value} : oGF (some (.inr (11, mF ma v))) 11 15 = some (.ref (ma 15)) := by rw [oGF_is, mF_at (by decide), if_pos (by decide +kernel)]
theorem hm_15 {E : aEnv} {ah : aHp} {m : Nat} {ma : Nat → Nat} {v : Nat → Value} {ai : Nat → Nat → Int32} {al : Nat → Nat → Int64} (h : MO E ah m ma) : hg E (mh E ah m ma v ai al) (ma 15) = some (.inl (0, 80, .inl (ai 15))) := (mh_k h (by decide) (by decide +kernel)).trans rfl
theorem sm_15 {E : aEnv} {ah : aHp} {m : Nat} {ma : Nat → Nat} {v : Nat → Value} {ai : Nat → Nat → Int32} {al : Nat → Nat → Int64} (h : MO E ah m ma) {g : Nat → Int32} : hs E (mh E ah m ma v ai al) (ma 15) (.inl (0, 80, .inl g)) = mh E ah m ma v (iu ai 15 g) al := mh_ai h (by decide) (by decide +kernel) (by decide +kernel)
theorem gm_16 {ma : Nat → Nat} {v : Nat → Value} : oGF (some (.inr (11, mF ma v))) 11 16 = some (.ref (ma 16)) := by rw [oGF_is, mF_at (by decide), if_pos (by decide +kernel)]
theorem hm_16 {E : aEnv} {ah : aHp} {m : Nat} {ma : Nat → Nat} {v : Nat → Value} {ai : Nat → Nat → Int32} {al : Nat → Nat → Int64} (h : MO E ah m ma) : hg E (mh E ah m ma v ai al) (ma 16) = some (.inl (0, 80, .inl (ai 16))) := (mh_k h (by decide) (by decide +kernel)).trans rfl
theorem sm_16 {E : aEnv} {ah : aHp} {m : Nat} {ma : Nat → Nat} {v : Nat → Value} {ai : Nat → Nat → Int32} {al : Nat → Nat → Int64} (h : MO E ah m ma) {g : Nat → Int32} : hs E (mh E ah m ma v ai al) (ma 16) (.inl (0, 80, .inl g)) = mh E ah m ma v (iu ai 16 g) al := mh_ai h (by decide) (by decide +kernel) (by decide +kernel)
theorem gm_17 {ma : Nat → Nat} {v : Nat → Value} : oGF (some (.inr (11, mF ma v))) 11 17 = some (.ref (ma 17)) := by rw [oGF_is, mF_at (by decide), if_pos (by decide +kernel)]
theorem hm_17 {E : aEnv} {ah : aHp} {m : Nat} {ma : Nat → Nat} {v : Nat → Value} {ai : Nat → Nat → Int32} {al : Nat → Nat → Int64} (h : MO E ah m ma) : hg E (mh E ah m ma v ai al) (ma 17) = some (.inl (3, 12, .inl (ai 17))) := (mh_k h (by decide) (by decide +kernel)).trans rfl
theorem sm_17 {E : aEnv} {ah : aHp} {m : Nat} {ma : Nat → Nat} {v : Nat → Value} {ai : Nat → Nat → Int32} {al : Nat → Nat → Int64} (h : MO E ah m ma) {g : Nat → Int32} : hs E (mh E ah m ma v ai al) (ma 17) (.inl (3, 12, .inl g)) = mh E ah m ma v (iu ai 17 g) al := mh_ai h (by decide) (by decide +kernel) (by decide +kernel)
theorem gm_18 {ma : Nat → Nat} {v : Nat → Value} : oGF (some (.inr (11, mF ma v))) 11 18 = some (v 18) := by rw [oGF_is, mF_at (by decide), if_neg (by decide +kernel)]
theorem pm_18 {ma : Nat → Nat} {v : Nat → Value} {x : Int32} : oPF (some (.inr (11, mF ma v))) 11180 (.int x) = some (.inr (11, mF ma (vu v 18 (.int x)))) := by rw [oPF_at 11 18 0 rfl (by decide) (by decide) fit_i (by rw [mF_len]; decide), mF_set (by decide +kernel)]
theorem gm_19 {ma : Nat → Nat} {v : Nat → Value} : oGF (some (.inr (11, mF ma v))) 11 19 = some (v 19) := by rw [oGF_is, mF_at (by decide), if_neg (by decide +kernel)]
theorem pm_19 {ma : Nat → Nat} {v : Nat → Value} {x : Int32} : oPF (some (.inr (11, mF ma v))) 11190 (.int x) = some (.inr (11, mF ma (vu v 19 (.int x)))) := by rw [oPF_at 11 19 0 rfl (by decide) (by decide) fit_i (by rw [mF_len]; decide), mF_set (by decide +kernel)]
theorem gm_20 {ma : Nat → Nat} {v : Nat → Value} : oGF (some (.inr (11, mF ma v))) 11 20 = some (v 20) := by rw [oGF_is, mF_at (by decide), if_neg (by decide +kernel)]
theorem pm_20 {ma : Nat → Nat} {v : Nat → Value} {x : Int32} : oPF (some (.inr (11, mF ma v))) 11200 (.int x) = some (.inr (11, mF ma (vu v 20 (.int x)))) := by rw [oPF_at 11 20 0 rfl (by decide) (by decide) fit_i (by rw [mF_len]; decide), mF_set (by decide +kernel)]
theorem gm_21 {ma : Nat → Nat} {v : Nat → Value} : oGF (some (.inr (11, mF ma v))) 11 21 = some (v 21) := by rw [oGF_is, mF_at (by decide), if_neg (by decide +kernel)]
theorem pm_21 {ma : Nat → Nat} {v : Nat → Value} {x : Int32} : oPF (some (.inr (11, mF ma v))) 11210 (.int x) = some (.inr (11, mF ma (vu v 21 (.int x)))) := by rw [oPF_at 11 21 0 rfl (by decide) (by decide) fit_i (by rw [mF_len]; decide), mF_set (by decide +kernel)]
theorem gm_22 {ma : Nat → Nat} {v : Nat → Value} : oGF (some (.inr (11, mF ma v))) 11 22 = some (v 22) := by rw [oGF_is, mF_at (by decide), if_neg (by decide +kernel)]
theorem pm_22 {ma : Nat → Nat} {v : Nat → Value} {x : Int32} : oPF (some (.inr (11, mF ma v))) 11220 (.int x) = some (.inr (11, mF ma (vu v 22 (.int x)))) := by rw [oPF_at 11 22 0 rfl (by decide) (by decide) fit_i (by rw [mF_len]; decide), mF_set (by decide +kernel)]
theorem gm_23 {ma : Nat → Nat} {v : Nat → Value} : oGF (some (.inr (11, mF ma v))) 11 23 = some (v 23) := by rw [oGF_is, mF_at (by decide), if_neg (by decide +kernel)]
theorem pm_23 {ma : Nat → Nat} {v : Nat → Value} {x : Int32} : oPF (some (.inr (11, mF ma v))) 11230 (.int x) = some (.inr (11, mF ma (vu v 23 (.int x)))) := by rw [oPF_at 11 23 0 rfl (by decide) (by decide) fit_i (by rw [mF_len]; decide), mF_set (by decide +kernel)]
theorem gm_24 {ma : Nat → Nat} {v : Nat → Value} : oGF (some (.inr (11, mF ma v))) 11 24 = some (v 24) := by rw [oGF_is, mF_at (by decide), if_neg (by decide +kernel)]
theorem pm_24 {ma : Nat → Nat} {v : Nat → Value} {x : Int32} : oPF (some (.inr (11, mF ma v))) 11240 (.int x) = some (.inr (11, mF ma (vu v 24 (.int x)))) := by rw [oPF_at 11 24 0 rfl (by decide) (by decide) fit_i (by rw [mF_len]; decide), mF_set (by decide +kernel)]
theorem gm_25 {ma : Nat → Nat} {v : Nat → Value} : oGF (some (.inr (11, mF ma v))) 11 25 = some (v 25) := by rw [oGF_is, mF_at (by decide), if_neg (by decide +kernel)]
theorem pm_25 {ma : Nat → Nat} {v : Nat → Value} {x : Int32} : oPF (some (.inr (11, mF ma v))) 11250 (.int x) = some (.inr (11, mF ma (vu v 25 (.int x)))) := by rw [oPF_at 11 25 0 rfl (by decide) (by decide) fit_i (by rw [mF_len]; decide), mF_set (by decide +kernel)]
theorem gm_26 {ma : Nat → Nat} {v : Nat → Value} : oGF (some (.inr (11, mF ma v))) 11 26 = some (.ref (ma 26)) := by rw [oGF_is, mF_at (by decide), if_pos (by decide +kernel)]
theorem hm_26 {E : aEnv} {ah : aHp} {m : Nat} {ma : Nat → Nat} {v : Nat → Value} {ai : Nat → Nat → Int32} {al : Nat → Nat → Int64} (h : MO E ah m ma) : hg E (mh E ah m ma v ai al) (ma 26) = some (.inl (1, 7, .inr (.inl (al 26)))) := (mh_k h (by decide) (by decide +kernel)).trans rfl
theorem sm_26 {E : aEnv} {ah : aHp} {m : Nat} {ma : Nat → Nat} {v : Nat → Value} {ai : Nat → Nat → Int32} {al : Nat → Nat → Int64} (h : MO E ah m ma) {g : Nat → Int64} : hs E (mh E ah m ma v ai al) (ma 26) (.inl (1, 7, .inr (.inl g))) = mh E ah m ma v ai (lu al 26 g) := mh_al h (by decide) (by decide +kernel)
theorem gm_27 {ma : Nat → Nat} {v : Nat → Value} : oGF (some (.inr (11, mF ma v))) 11 27 = some (.ref (ma 27)) := by rw [oGF_is, mF_at (by decide), if_pos (by decide +kernel)]
theorem hm_27 {E : aEnv} {ah : aHp} {m : Nat} {ma : Nat → Nat} {v : Nat → Value} {ai : Nat → Nat → Int32} {al : Nat → Nat → Int64} (h : MO E ah m ma) : hg E (mh E ah m ma v ai al) (ma 27) = some (.inl (1, 60, .inr (.inl (al 27)))) := (mh_k h (by decide) (by decide +kernel)).trans rfl
theorem sm_27 {E : aEnv} {ah : aHp} {m : Nat} {ma : Nat → Nat} {v : Nat → Value} {ai : Nat → Nat → Int32} {al : Nat → Nat → Int64} (h : MO E ah m ma) {g : Nat → Int64} : hs E (mh E ah m ma v ai al) (ma 27) (.inl (1, 60, .inr (.inl g))) = mh E ah m ma v ai (lu al 27 g) := mh_al h (by decide) (by decide +kernel)
theorem gm_28 {ma : Nat → Nat} {v : Nat → Value} : oGF (some (.inr (11, mF ma v))) 11 28 = some (.ref (ma 28)) := by rw [oGF_is, mF_at (by decide), if_pos (by decide +kernel)]
theorem hm_28 {E : aEnv} {ah : aHp} {m : Nat} {ma : Nat → Nat} {v : Nat → Value} {ai : Nat → Nat → Int32} {al : Nat → Nat → Int64} (h : MO E ah m ma) : hg E (mh E ah m ma v ai al) (ma 28) = some (.inl (2, 500, .inl (ai 28))) := (mh_k h (by decide) (by decide +kernel)).trans rfl
theorem sm_28 {E : aEnv} {ah : aHp} {m : Nat} {ma : Nat → Nat} {v : Nat → Value} {ai : Nat → Nat → Int32} {al : Nat → Nat → Int64} (h : MO E ah m ma) {g : Nat → Int32} : hs E (mh E ah m ma v ai al) (ma 28) (.inl (2, 500, .inl g)) = mh E ah m ma v (iu ai 28 g) al := mh_ai h (by decide) (by decide +kernel) (by decide +kernel)
theorem gm_29 {ma : Nat → Nat} {v : Nat → Value} : oGF (some (.inr (11, mF ma v))) 11 29 = some (v 29) := by rw [oGF_is, mF_at (by decide), if_neg (by decide +kernel)]
theorem pm_29 {ma : Nat → Nat} {v : Nat → Value} {x : Int32} : oPF (some (.inr (11, mF ma v))) 11290 (.int x) = some (.inr (11, mF ma (vu v 29 (.int x)))) := by rw [oPF_at 11 29 0 rfl (by decide) (by decide) fit_i (by rw [mF_len]; decide), mF_set (by decide +kernel)]
theorem gm_30 {ma : Nat → Nat} {v : Nat → Value} : oGF (some (.inr (11, mF ma v))) 11 30 = some (v 30) := by rw [oGF_is, mF_at (by decide), if_neg (by decide +kernel)]
theorem pm_30 {ma : Nat → Nat} {v : Nat → Value} {x : Int32} : oPF (some (.inr (11, mF ma v))) 11300 (.int x) = some (.inr (11, mF ma (vu v 30 (.int x)))) := by rw [oPF_at 11 30 0 rfl (by decide) (by decide) fit_i (by rw [mF_len]; decide), mF_set (by decide +kernel)]
theorem gm_31 {ma : Nat → Nat} {v : Nat → Value} : oGF (some (.inr (11, mF ma v))) 11 31 = some (v 31) := by rw [oGF_is, mF_at (by decide), if_neg (by decide +kernel)]
theorem pm_31 {ma : Nat → Nat} {v : Nat → Value} {x : Int32} : oPF (some (.inr (11, mF ma v))) 11310 (.int x) = some (.inr (11, mF ma (vu v 31 (.int x)))) := by rw [oPF_at 11 31 0 rfl (by decide) (by decide) fit_i (by rw [mF_len]; decide), mF_set (by decide +kernel)]
theorem gm_32 {ma : Nat → Nat} {v : Nat → Value} : oGF (some (.inr (11, mF ma v))) 11 32 = some (v 32) := by rw [oGF_is, mF_at (by decide), if_neg (by decide +kernel)]
theorem pm_32 {ma : Nat → Nat} {v : Nat → Value} {x : Int32} : oPF (some (.inr (11, mF ma v))) 11320 (.int x) = some (.inr (11, mF ma (vu v 32 (.int x)))) := by rw [oPF_at 11 32 0 rfl (by decide) (by decide) fit_i (by rw [mF_len]; decide), mF_set (by decide +kernel)]
theorem gm_33 {ma : Nat → Nat} {v : Nat → Value} : oGF (some (.inr (11, mF ma v))) 11 33 = some (v 33) := by rw [oGF_is, mF_at (by decide), if_neg (by decide +kernel)]
theorem pm_33 {ma : Nat → Nat} {v : Nat → Value} {x : Int32} : oPF (some (.inr (11, mF ma v))) 11330 (.int x) = some (.inr (11, mF ma (vu v 33 (.int x)))) := by rw [oPF_at 11 33 0 rfl (by decide) (by decide) fit_i (by rw [mF_len]; decide), mF_set (by decide +kernel)]
theorem gm_34 {ma : Nat → Nat} {v : Nat → Value} : oGF (some (.inr (11, mF ma v))) 11 34 = some (v 34) := by rw [oGF_is, mF_at (by decide), if_neg (by decide +kernel)]
theorem pm_34 {ma : Nat → Nat} {v : Nat → Value} {x : Int32} : oPF (some (.inr (11, mF ma v))) 11340 (.int x) = some (.inr (11, mF ma (vu v 34 (.int x)))) := by rw [oPF_at 11 34 0 rfl (by decide) (by decide) fit_i (by rw [mF_len]; decide), mF_set (by decide +kernel)]
theorem gm_35 {ma : Nat → Nat} {v : Nat → Value} : oGF (some (.inr (11, mF ma v))) 11 35 = some (v 35) := by rw [oGF_is, mF_at (by decide), if_neg (by decide +kernel)]
theorem pm_35 {ma : Nat → Nat} {v : Nat → Value} {x : Int32} : oPF (some (.inr (11, mF ma v))) 11350 (.int x) = some (.inr (11, mF ma (vu v 35 (.int x)))) := by rw [oPF_at 11 35 0 rfl (by decide) (by decide) fit_i (by rw [mF_len]; decide), mF_set (by decide +kernel)]
theorem gm_36 {ma : Nat → Nat} {v : Nat → Value} : oGF (some (.inr (11, mF ma v))) 11 36 = some (v 36) := by rw [oGF_is, mF_at (by decide), if_neg (by decide +kernel)]
theorem pm_36 {ma : Nat → Nat} {v : Nat → Value} {x : Int32} : oPF (some (.inr (11, mF ma v))) 11360 (.int x) = some (.inr (11, mF ma (vu v 36 (.int x)))) := by rw [oPF_at 11 36 0 rfl (by decide) (by decide) fit_i (by rw [mF_len]; decide), mF_set (by decide +kernel)]
theorem gm_37 {ma : Nat → Nat} {v : Nat → Value} : oGF (some (.inr (11, mF ma v))) 11 37 = some (v 37) := by rw [oGF_is, mF_at (by decide), if_neg (by decide +kernel)]
theorem pm_37 {ma : Nat → Nat} {v : Nat → Value} {x : Int32} : oPF (some (.inr (11, mF ma v))) 11370 (.int x) = some (.inr (11, mF ma (vu v 37 (.int x)))) := by rw [oPF_at 11 37 0 rfl (by decide) (by decide) fit_i (by rw [mF_len]; decide), mF_set (by decide +kernel)]
theorem gm_38 {ma : Nat → Nat} {v : Nat → Value} : oGF (some (.inr (11, mF ma v))) 11 38 = some (v 38) := by rw [oGF_is, mF_at (by decide), if_neg (by decide +kernel)]
theorem pm_38 {ma : Nat → Nat} {v : Nat → Value} {x : Int32} : oPF (some (.inr (11, mF ma v))) 11380 (.int x) = some (.inr (11, mF ma (vu v 38 (.int x)))) := by rw [oPF_at 11 38 0 rfl (by decide) (by decide) fit_i (by rw [mF_len]; decide), mF_set (by decide +kernel)]
theorem gm_39 {ma : Nat → Nat} {v : Nat → Value} : oGF (some (.inr (11, mF ma v))) 11 39 = some (v 39) := by rw [oGF_is, mF_at (by decide), if_neg (by decide +kernel)]
theorem pm_39 {ma : Nat → Nat} {v : Nat → Value} {x : Int64} : oPF (some (.inr (11, mF ma v))) 11391 (.long x) = some (.inr (11, mF ma (vu v 39 (.long x)))) := by rw [oPF_at 11 39 1 rfl (by decide) (by decide) fit_l (by rw [mF_len]; decide), mF_set (by decide +kernel)]
theorem gm_40 {ma : Nat → Nat} {v : Nat → Value} : oGF (some (.inr (11, mF ma v))) 11 40 = some (v 40) := by rw [oGF_is, mF_at (by decide), if_neg (by decide +kernel)]
theorem pm_40 {ma : Nat → Nat} {v : Nat → Value} {x : Int64} : oPF (some (.inr (11, mF ma v))) 11401 (.long x) = some (.inr (11, mF ma (vu v 40 (.long x)))) := by rw [oPF_at 11 40 1 rfl (by decide) (by decide) fit_l (by rw [mF_len]; decide), mF_set (by decide +kernel)]
theorem gm_41 {ma : Nat → Nat} {v : Nat → Value} : oGF (some (.inr (11, mF ma v))) 11 41 = some (v 41) := by rw [oGF_is, mF_at (by decide), if_neg (by decide +kernel)]
theorem pm_41 {ma : Nat → Nat} {v : Nat → Value} {x : Int32} : oPF (some (.inr (11, mF ma v))) 11410 (.int x) = some (.inr (11, mF ma (vu v 41 (.int x)))) := by rw [oPF_at 11 41 0 rfl (by decide) (by decide) fit_i (by rw [mF_len]; decide), mF_set (by decide +kernel)]
theorem gm_42 {ma : Nat → Nat} {v : Nat → Value} : oGF (some (.inr (11, mF ma v))) 11 42 = some (v 42) := by rw [oGF_is, mF_at (by decide), if_neg (by decide +kernel)]
theorem pm_42 {ma : Nat → Nat} {v : Nat → Value} {x : Int32} : oPF (some (.inr (11, mF ma v))) 11420 (.int x) = some (.inr (11, mF ma (vu v 42 (.int x)))) := by rw [oPF_at 11 42 0 rfl (by decide) (by decide) fit_i (by rw [mF_len]; decide), mF_set (by decide +kernel)]
theorem gm_43 {ma : Nat → Nat} {v : Nat → Value} : oGF (some (.inr (11, mF ma v))) 11 43 = some (.ref (ma 43)) := by rw [oGF_is, mF_at (by decide), if_pos (by decide +kernel)]
theorem hm_43 {E : aEnv} {ah : aHp} {m : Nat} {ma : Nat → Nat} {v : Nat → Value} {ai : Nat → Nat → Int32} {al : Nat → Nat → Int64} (h : MO E ah m ma) : hg E (mh E ah m ma v ai al) (ma 43) = some (.inl (0, 40, .inl (ai 43))) := (mh_k h (by decide) (by decide +kernel)).trans rfl
theorem sm_43 {E : aEnv} {ah : aHp} {m : Nat} {ma : Nat → Nat} {v : Nat → Value} {ai : Nat → Nat → Int32} {al : Nat → Nat → Int64} (h : MO E ah m ma) {g : Nat → Int32} : hs E (mh E ah m ma v ai al) (ma 43) (.inl (0, 40, .inl g)) = mh E ah m ma v (iu ai 43 g) al := mh_ai h (by decide) (by decide +kernel) (by decide +kernel)
theorem gm_44 {ma : Nat → Nat} {v : Nat → Value} : oGF (some (.inr (11, mF ma v))) 11 44 = some (.ref (ma 44)) := by rw [oGF_is, mF_at (by decide), if_pos (by decide +kernel)]
theorem hm_44 {E : aEnv} {ah : aHp} {m : Nat} {ma : Nat → Nat} {v : Nat → Value} {ai : Nat → Nat → Int32} {al : Nat → Nat → Int64} (h : MO E ah m ma) : hg E (mh E ah m ma v ai al) (ma 44) = some (.inl (0, 40, .inl (ai 44))) := (mh_k h (by decide) (by decide +kernel)).trans rfl
theorem sm_44 {E : aEnv} {ah : aHp} {m : Nat} {ma : Nat → Nat} {v : Nat → Value} {ai : Nat → Nat → Int32} {al : Nat → Nat → Int64} (h : MO E ah m ma) {g : Nat → Int32} : hs E (mh E ah m ma v ai al) (ma 44) (.inl (0, 40, .inl g)) = mh E ah m ma v (iu ai 44 g) al := mh_ai h (by decide) (by decide +kernel) (by decide +kernel)
theorem gm_45 {ma : Nat → Nat} {v : Nat → Value} : oGF (some (.inr (11, mF ma v))) 11 45 = some (.ref (ma 45)) := by rw [oGF_is, mF_at (by decide), if_pos (by decide +kernel)]
theorem hm_45 {E : aEnv} {ah : aHp} {m : Nat} {ma : Nat → Nat} {v : Nat → Value} {ai : Nat → Nat → Int32} {al : Nat → Nat → Int64} (h : MO E ah m ma) : hg E (mh E ah m ma v ai al) (ma 45) = some (.inl (0, 40, .inl (ai 45))) := (mh_k h (by decide) (by decide +kernel)).trans rfl
theorem sm_45 {E : aEnv} {ah : aHp} {m : Nat} {ma : Nat → Nat} {v : Nat → Value} {ai : Nat → Nat → Int32} {al : Nat → Nat → Int64} (h : MO E ah m ma) {g : Nat → Int32} : hs E (mh E ah m ma v ai al) (ma 45) (.inl (0, 40, .inl g)) = mh E ah m ma v (iu ai 45 g) al := mh_ai h (by decide) (by decide +kernel) (by decide +kernel)
theorem gm_46 {ma : Nat → Nat} {v : Nat → Value} : oGF (some (.inr (11, mF ma v))) 11 46 = some (.ref (ma 46)) := by rw [oGF_is, mF_at (by decide), if_pos (by decide +kernel)]
theorem hm_46 {E : aEnv} {ah : aHp} {m : Nat} {ma : Nat → Nat} {v : Nat → Value} {ai : Nat → Nat → Int32} {al : Nat → Nat → Int64} (h : MO E ah m ma) : hg E (mh E ah m ma v ai al) (ma 46) = some (.inl (0, 40, .inl (ai 46))) := (mh_k h (by decide) (by decide +kernel)).trans rfl
theorem sm_46 {E : aEnv} {ah : aHp} {m : Nat} {ma : Nat → Nat} {v : Nat → Value} {ai : Nat → Nat → Int32} {al : Nat → Nat → Int64} (h : MO E ah m ma) {g : Nat → Int32} : hs E (mh E ah m ma v ai al) (ma 46) (.inl (0, 40, .inl g)) = mh E ah m ma v (iu ai 46 g) al := mh_ai h (by decide) (by decide +kernel) (by decide +kernel)
theorem gm_47 {ma : Nat → Nat} {v : Nat → Value} : oGF (some (.inr (11, mF ma v))) 11 47 = some (.ref (ma 47)) := by rw [oGF_is, mF_at (by decide), if_pos (by decide +kernel)]
theorem hm_47 {E : aEnv} {ah : aHp} {m : Nat} {ma : Nat → Nat} {v : Nat → Value} {ai : Nat → Nat → Int32} {al : Nat → Nat → Int64} (h : MO E ah m ma) : hg E (mh E ah m ma v ai al) (ma 47) = some (.inl (0, 40, .inl (ai 47))) := (mh_k h (by decide) (by decide +kernel)).trans rfl
theorem sm_47 {E : aEnv} {ah : aHp} {m : Nat} {ma : Nat → Nat} {v : Nat → Value} {ai : Nat → Nat → Int32} {al : Nat → Nat → Int64} (h : MO E ah m ma) {g : Nat → Int32} : hs E (mh E ah m ma v ai al) (ma 47) (.inl (0, 40, .inl g)) = mh E ah m ma v (iu ai 47 g) al := mh_ai h (by decide) (by decide +kernel) (by decide +kernel)
theorem gm_48 {ma : Nat → Nat} {v : Nat → Value} : oGF (some (.inr (11, mF ma v))) 11 48 = some (.ref (ma 48)) := by rw [oGF_is, mF_at (by decide), if_pos (by decide +kernel)]
theorem hm_48 {E : aEnv} {ah : aHp} {m : Nat} {ma : Nat → Nat} {v : Nat → Value} {ai : Nat → Nat → Int32} {al : Nat → Nat → Int64} (h : MO E ah m ma) : hg E (mh E ah m ma v ai al) (ma 48) = some (.inl (0, 40, .inl (ai 48))) := (mh_k h (by decide) (by decide +kernel)).trans rfl
theorem sm_48 {E : aEnv} {ah : aHp} {m : Nat} {ma : Nat → Nat} {v : Nat → Value} {ai : Nat → Nat → Int32} {al : Nat → Nat → Int64} (h : MO E ah m ma) {g : Nat → Int32} : hs E (mh E ah m ma v ai al) (ma 48) (.inl (0, 40, .inl g)) = mh E ah m ma v (iu ai 48 g) al := mh_ai h (by decide) (by decide +kernel) (by decide +kernel)
theorem gm_49 {ma : Nat → Nat} {v : Nat → Value} : oGF (some (.inr (11, mF ma v))) 11 49 = some (.ref (ma 49)) := by rw [oGF_is, mF_at (by decide), if_pos (by decide +kernel)]
theorem hm_49 {E : aEnv} {ah : aHp} {m : Nat} {ma : Nat → Nat} {v : Nat → Value} {ai : Nat → Nat → Int32} {al : Nat → Nat → Int64} (h : MO E ah m ma) : hg E (mh E ah m ma v ai al) (ma 49) = some (.inl (0, 40, .inl (ai 49))) := (mh_k h (by decide) (by decide +kernel)).trans rfl
theorem sm_49 {E : aEnv} {ah : aHp} {m : Nat} {ma : Nat → Nat} {v : Nat → Value} {ai : Nat → Nat → Int32} {al : Nat → Nat → Int64} (h : MO E ah m ma) {g : Nat → Int32} : hs E (mh E ah m ma v ai al) (ma 49) (.inl (0, 40, .inl g)) = mh E ah m ma v (iu ai 49 g) al := mh_ai h (by decide) (by decide +kernel) (by decide +kernel)
theorem gm_50 {ma : Nat → Nat} {v : Nat → Value} : oGF (some (.inr (11, mF ma v))) 11 50 = some (.ref (ma 50)) := by rw [oGF_is, mF_at (by decide), if_pos (by decide +kernel)]
theorem hm_50 {E : aEnv} {ah : aHp} {m : Nat} {ma : Nat → Nat} {v : Nat → Value} {ai : Nat → Nat → Int32} {al : Nat → Nat → Int64} (h : MO E ah m ma) : hg E (mh E ah m ma v ai al) (ma 50) = some (.inl (0, 40, .inl (ai 50))) := (mh_k h (by decide) (by decide +kernel)).trans rfl
theorem sm_50 {E : aEnv} {ah : aHp} {m : Nat} {ma : Nat → Nat} {v : Nat → Value} {ai : Nat → Nat → Int32} {al : Nat → Nat → Int64} (h : MO E ah m ma) {g : Nat → Int32} : hs E (mh E ah m ma v ai al) (ma 50) (.inl (0, 40, .inl g)) = mh E ah m ma v (iu ai 50 g) al := mh_ai h (by decide) (by decide +kernel) (by decide +kernel)
theorem gm_51 {ma : Nat → Nat} {v : Nat → Value} : oGF (some (.inr (11, mF ma v))) 11 51 = some (.ref (ma 51)) := by rw [oGF_is, mF_at (by decide), if_pos (by decide +kernel)]
theorem hm_51 {E : aEnv} {ah : aHp} {m : Nat} {ma : Nat → Nat} {v : Nat → Value} {ai : Nat → Nat → Int32} {al : Nat → Nat → Int64} (h : MO E ah m ma) : hg E (mh E ah m ma v ai al) (ma 51) = some (.inl (0, 40, .inl (ai 51))) := (mh_k h (by decide) (by decide +kernel)).trans rfl
theorem sm_51 {E : aEnv} {ah : aHp} {m : Nat} {ma : Nat → Nat} {v : Nat → Value} {ai : Nat → Nat → Int32} {al : Nat → Nat → Int64} (h : MO E ah m ma) {g : Nat → Int32} : hs E (mh E ah m ma v ai al) (ma 51) (.inl (0, 40, .inl g)) = mh E ah m ma v (iu ai 51 g) al := mh_ai h (by decide) (by decide +kernel) (by decide +kernel)
theorem gm_52 {ma : Nat → Nat} {v : Nat → Value} : oGF (some (.inr (11, mF ma v))) 11 52 = some (.ref (ma 52)) := by rw [oGF_is, mF_at (by decide), if_pos (by decide +kernel)]
theorem hm_52 {E : aEnv} {ah : aHp} {m : Nat} {ma : Nat → Nat} {v : Nat → Value} {ai : Nat → Nat → Int32} {al : Nat → Nat → Int64} (h : MO E ah m ma) : hg E (mh E ah m ma v ai al) (ma 52) = some (.inl (0, 40, .inl (ai 52))) := (mh_k h (by decide) (by decide +kernel)).trans rfl
theorem sm_52 {E : aEnv} {ah : aHp} {m : Nat} {ma : Nat → Nat} {v : Nat → Value} {ai : Nat → Nat → Int32} {al : Nat → Nat → Int64} (h : MO E ah m ma) {g : Nat → Int32} : hs E (mh E ah m ma v ai al) (ma 52) (.inl (0, 40, .inl g)) = mh E ah m ma v (iu ai 52 g) al := mh_ai h (by decide) (by decide +kernel) (by decide +kernel)
theorem gm_53 {ma : Nat → Nat} {v : Nat → Value} : oGF (some (.inr (11, mF ma v))) 11 53 = some (.ref (ma 53)) := by rw [oGF_is, mF_at (by decide), if_pos (by decide +kernel)]
theorem hm_53 {E : aEnv} {ah : aHp} {m : Nat} {ma : Nat → Nat} {v : Nat → Value} {ai : Nat → Nat → Int32} {al : Nat → Nat → Int64} (h : MO E ah m ma) : hg E (mh E ah m ma v ai al) (ma 53) = some (.inl (0, 40, .inl (ai 53))) := (mh_k h (by decide) (by decide +kernel)).trans rfl
theorem sm_53 {E : aEnv} {ah : aHp} {m : Nat} {ma : Nat → Nat} {v : Nat → Value} {ai : Nat → Nat → Int32} {al : Nat → Nat → Int64} (h : MO E ah m ma) {g : Nat → Int32} : hs E (mh E ah m ma v ai al) (ma 53) (.inl (0, 40, .inl g)) = mh E ah m ma v (iu ai 53 g) al := mh_ai h (by decide) (by decide +kernel) (by decide +kernel)
theorem gm_54 {ma : Nat → Nat} {v : Nat → Value} : oGF (some (.inr (11, mF ma v))) 11 54 = some (.ref (ma 54)) := by rw [oGF_is, mF_at (by decide), if_pos (by decide +kernel)]
theorem hm_54 {E : aEnv} {ah : aHp} {m : Nat} {ma : Nat → Nat} {v : Nat → Value} {ai : Nat → Nat → Int32} {al : Nat → Nat → Int64} (h : MO E ah m ma) : hg E (mh E ah m ma v ai al) (ma 54) = some (.inl (0, 40, .inl (ai 54))) := (mh_k h (by decide) (by decide +kernel)).trans rfl
theorem sm_54 {E : aEnv} {ah : aHp} {m : Nat} {ma : Nat → Nat} {v : Nat → Value} {ai : Nat → Nat → Int32} {al : Nat → Nat → Int64} (h : MO E ah m ma) {g : Nat → Int32} : hs E (mh E ah m ma v ai al) (ma 54) (.inl (0, 40, .inl g)) = mh E ah m ma v (iu ai 54 g) al := mh_ai h (by decide) (by decide +kernel) (by decide +kernel)
theorem gm_55 {ma : Nat → Nat} {v : Nat → Value} : oGF (some (.inr (11, mF ma v))) 11 55 = some (.ref (ma 55)) := by rw [oGF_is, mF_at (by decide), if_pos (by decide +kernel)]
theorem hm_55 {E : aEnv} {ah : aHp} {m : Nat} {ma : Nat → Nat} {v : Nat → Value} {ai : Nat → Nat → Int32} {al : Nat → Nat → Int64} (h : MO E ah m ma) : hg E (mh E ah m ma v ai al) (ma 55) = some (.inl (0, 40, .inl (ai 55))) := (mh_k h (by decide) (by decide +kernel)).trans rfl
theorem sm_55 {E : aEnv} {ah : aHp} {m : Nat} {ma : Nat → Nat} {v : Nat → Value} {ai : Nat → Nat → Int32} {al : Nat → Nat → Int64} (h : MO E ah m ma) {g : Nat → Int32} : hs E (mh E ah m ma v ai al) (ma 55) (.inl (0, 40, .inl g)) = mh E ah m ma v (iu ai 55 g) al := mh_ai h (by decide) (by decide +kernel) (by decide +kernel)
theorem gm_56 {ma : Nat → Nat} {v : Nat → Value} : oGF (some (.inr (11, mF ma v))) 11 56 = some (.ref (ma 56)) := by rw [oGF_is, mF_at (by decide), if_pos (by decide +kernel)]
theorem hm_56 {E : aEnv} {ah : aHp} {m : Nat} {ma : Nat → Nat} {v : Nat → Value} {ai : Nat → Nat → Int32} {al : Nat → Nat → Int64} (h : MO E ah m ma) : hg E (mh E ah m ma v ai al) (ma 56) = some (.inl (1, 40, .inr (.inl (al 56)))) := (mh_k h (by decide) (by decide +kernel)).trans rfl
theorem sm_56 {E : aEnv} {ah : aHp} {m : Nat} {ma : Nat → Nat} {v : Nat → Value} {ai : Nat → Nat → Int32} {al : Nat → Nat → Int64} (h : MO E ah m ma) {g : Nat → Int64} : hs E (mh E ah m ma v ai al) (ma 56) (.inl (1, 40, .inr (.inl g))) = mh E ah m ma v ai (lu al 56 g) := mh_al h (by decide) (by decide +kernel)
theorem gm_57 {ma : Nat → Nat} {v : Nat → Value} : oGF (some (.inr (11, mF ma v))) 11 57 = some (.ref (ma 57)) := by rw [oGF_is, mF_at (by decide), if_pos (by decide +kernel)]
theorem hm_57 {E : aEnv} {ah : aHp} {m : Nat} {ma : Nat → Nat} {v : Nat → Value} {ai : Nat → Nat → Int32} {al : Nat → Nat → Int64} (h : MO E ah m ma) : hg E (mh E ah m ma v ai al) (ma 57) = some (.inl (1, 40, .inr (.inl (al 57)))) := (mh_k h (by decide) (by decide +kernel)).trans rfl
theorem sm_57 {E : aEnv} {ah : aHp} {m : Nat} {ma : Nat → Nat} {v : Nat → Value} {ai : Nat → Nat → Int32} {al : Nat → Nat → Int64} (h : MO E ah m ma) {g : Nat → Int64} : hs E (mh E ah m ma v ai al) (ma 57) (.inl (1, 40, .inr (.inl g))) = mh E ah m ma v ai (lu al 57 g) := mh_al h (by decide) (by decide +kernel)
theorem gm_58 {ma : Nat → Nat} {v : Nat → Value} : oGF (some (.inr (11, mF ma v))) 11 58 = some (.ref (ma 58)) := by rw [oGF_is, mF_at (by decide), if_pos (by decide +kernel)]
theorem hm_58 {E : aEnv} {ah : aHp} {m : Nat} {ma : Nat → Nat} {v : Nat → Value} {ai : Nat → Nat → Int32} {al : Nat → Nat → Int64} (h : MO E ah m ma) : hg E (mh E ah m ma v ai al) (ma 58) = some (.inl (1, 20, .inr (.inl (al 58)))) := (mh_k h (by decide) (by decide +kernel)).trans rfl
theorem sm_58 {E : aEnv} {ah : aHp} {m : Nat} {ma : Nat → Nat} {v : Nat → Value} {ai : Nat → Nat → Int32} {al : Nat → Nat → Int64} (h : MO E ah m ma) {g : Nat → Int64} : hs E (mh E ah m ma v ai al) (ma 58) (.inl (1, 20, .inr (.inl g))) = mh E ah m ma v ai (lu al 58 g) := mh_al h (by decide) (by decide +kernel)
theorem gm_59 {ma : Nat → Nat} {v : Nat → Value} : oGF (some (.inr (11, mF ma v))) 11 59 = some (.ref (ma 59)) := by rw [oGF_is, mF_at (by decide), if_pos (by decide +kernel)]
theorem hm_59 {E : aEnv} {ah : aHp} {m : Nat} {ma : Nat → Nat} {v : Nat → Value} {ai : Nat → Nat → Int32} {al : Nat → Nat → Int64} (h : MO E ah m ma) : hg E (mh E ah m ma v ai al) (ma 59) = some (.inl (1, 40, .inr (.inl (al 59)))) := (mh_k h (by decide) (by decide +kernel)).trans rfl
theorem sm_59 {E : aEnv} {ah : aHp} {m : Nat} {ma : Nat → Nat} {v : Nat → Value} {ai : Nat → Nat → Int32} {al : Nat → Nat → Int64} (h : MO E ah m ma) {g : Nat → Int64} : hs E (mh E ah m ma v ai al) (ma 59) (.inl (1, 40, .inr (.inl g))) = mh E ah m ma v ai (lu al 59 g) := mh_al h (by decide) (by decide +kernel)
theorem gm_60 {ma : Nat → Nat} {v : Nat → Value} : oGF (some (.inr (11, mF ma v))) 11 60 = some (v 60) := by rw [oGF_is, mF_at (by decide), if_neg (by decide +kernel)]
theorem pm_60 {ma : Nat → Nat} {v : Nat → Value} {x : Int32} (hx : x = 0 ∨ x = 1) : oPF (some (.inr (11, mF ma v))) 11603 (.int x) = some (.inr (11, mF ma (vu v 60 (.int x)))) := by rw [oPF_at 11 60 3 rfl (by decide) (by decide) (fit_z hx) (by rw [mF_len]; decide), mF_set (by decide +kernel)]
theorem gm_61 {ma : Nat → Nat} {v : Nat → Value} : oGF (some (.inr (11, mF ma v))) 11 61 = some (v 61) := by rw [oGF_is, mF_at (by decide), if_neg (by decide +kernel)]
theorem pm_61 {ma : Nat → Nat} {v : Nat → Value} {x : Int32} (hx : x = 0 ∨ x = 1) : oPF (some (.inr (11, mF ma v))) 11613 (.int x) = some (.inr (11, mF ma (vu v 61 (.int x)))) := by rw [oPF_at 11 61 3 rfl (by decide) (by decide) (fit_z hx) (by rw [mF_len]; decide), mF_set (by decide +kernel)]
theorem gm_62 {ma : Nat → Nat} {v : Nat → Value} : oGF (some (.inr (11, mF ma v))) 11 62 = some (v 62) := by rw [oGF_is, mF_at (by decide), if_neg (by decide +kernel)]
theorem pm_62 {ma : Nat → Nat} {v : Nat → Value} {x : Int32} : oPF (some (.inr (11, mF ma v))) 11620 (.int x) = some (.inr (11, mF ma (vu v 62 (.int x)))) := by rw [oPF_at 11 62 0 rfl (by decide) (by decide) fit_i (by rw [mF_len]; decide), mF_set (by decide +kernel)]
theorem gm_63 {ma : Nat → Nat} {v : Nat → Value} : oGF (some (.inr (11, mF ma v))) 11 63 = some (v 63) := by rw [oGF_is, mF_at (by decide), if_neg (by decide +kernel)]
theorem pm_63 {ma : Nat → Nat} {v : Nat → Value} {x : Int32} : oPF (some (.inr (11, mF ma v))) 11630 (.int x) = some (.inr (11, mF ma (vu v 63 (.int x)))) := by rw [oPF_at 11 63 0 rfl (by decide) (by decide) fit_i (by rw [mF_len]; decide), mF_set (by decide +kernel)]
theorem gm_64 {ma : Nat → Nat} {v : Nat → Value} : oGF (some (.inr (11, mF ma v))) 11 64 = some (v 64) := by rw [oGF_is, mF_at (by decide), if_neg (by decide +kernel)]
theorem pm_64 {ma : Nat → Nat} {v : Nat → Value} {x : Int32} : oPF (some (.inr (11, mF ma v))) 11640 (.int x) = some (.inr (11, mF ma (vu v 64 (.int x)))) := by rw [oPF_at 11 64 0 rfl (by decide) (by decide) fit_i (by rw [mF_len]; decide), mF_set (by decide +kernel)]
theorem gm_65 {ma : Nat → Nat} {v : Nat → Value} : oGF (some (.inr (11, mF ma v))) 11 65 = some (v 65) := by rw [oGF_is, mF_at (by decide), if_neg (by decide +kernel)]
theorem pm_65 {ma : Nat → Nat} {v : Nat → Value} {x : Int32} : oPF (some (.inr (11, mF ma v))) 11650 (.int x) = some (.inr (11, mF ma (vu v 65 (.int x)))) := by rw [oPF_at 11 65 0 rfl (by decide) (by decide) fit_i (by rw [mF_len]; decide), mF_set (by decide +kernel)]
theorem gm_66 {ma : Nat → Nat} {v : Nat → Value} : oGF (some (.inr (11, mF ma v))) 11 66 = some (v 66) := by rw [oGF_is, mF_at (by decide), if_neg (by decide +kernel)]
theorem pm_66 {ma : Nat → Nat} {v : Nat → Value} {x : Int32} : oPF (some (.inr (11, mF ma v))) 11660 (.int x) = some (.inr (11, mF ma (vu v 66 (.int x)))) := by rw [oPF_at 11 66 0 rfl (by decide) (by decide) fit_i (by rw [mF_len]; decide), mF_set (by decide +kernel)]
theorem gm_67 {ma : Nat → Nat} {v : Nat → Value} : oGF (some (.inr (11, mF ma v))) 11 67 = some (.ref (ma 67)) := by rw [oGF_is, mF_at (by decide), if_pos (by decide +kernel)]
theorem hm_67 {E : aEnv} {ah : aHp} {m : Nat} {ma : Nat → Nat} {v : Nat → Value} {ai : Nat → Nat → Int32} {al : Nat → Nat → Int64} (h : MO E ah m ma) : hg E (mh E ah m ma v ai al) (ma 67) = some (.inl (0, 28, .inl (ai 67))) := (mh_k h (by decide) (by decide +kernel)).trans rfl
theorem sm_67 {E : aEnv} {ah : aHp} {m : Nat} {ma : Nat → Nat} {v : Nat → Value} {ai : Nat → Nat → Int32} {al : Nat → Nat → Int64} (h : MO E ah m ma) {g : Nat → Int32} : hs E (mh E ah m ma v ai al) (ma 67) (.inl (0, 28, .inl g)) = mh E ah m ma v (iu ai 67 g) al := mh_ai h (by decide) (by decide +kernel) (by decide +kernel)
theorem gm_68 {ma : Nat → Nat} {v : Nat → Value} : oGF (some (.inr (11, mF ma v))) 11 68 = some (.ref (ma 68)) := by rw [oGF_is, mF_at (by decide), if_pos (by decide +kernel)]
theorem hm_68 {E : aEnv} {ah : aHp} {m : Nat} {ma : Nat → Nat} {v : Nat → Value} {ai : Nat → Nat → Int32} {al : Nat → Nat → Int64} (h : MO E ah m ma) : hg E (mh E ah m ma v ai al) (ma 68) = some (.inl (0, 13, .inl (ai 68))) := (mh_k h (by decide) (by decide +kernel)).trans rfl
theorem sm_68 {E : aEnv} {ah : aHp} {m : Nat} {ma : Nat → Nat} {v : Nat → Value} {ai : Nat → Nat → Int32} {al : Nat → Nat → Int64} (h : MO E ah m ma) {g : Nat → Int32} : hs E (mh E ah m ma v ai al) (ma 68) (.inl (0, 13, .inl g)) = mh E ah m ma v (iu ai 68 g) al := mh_ai h (by decide) (by decide +kernel) (by decide +kernel)
theorem gm_69 {ma : Nat → Nat} {v : Nat → Value} : oGF (some (.inr (11, mF ma v))) 11 69 = some (.ref (ma 69)) := by rw [oGF_is, mF_at (by decide), if_pos (by decide +kernel)]
theorem hm_69 {E : aEnv} {ah : aHp} {m : Nat} {ma : Nat → Nat} {v : Nat → Value} {ai : Nat → Nat → Int32} {al : Nat → Nat → Int64} (h : MO E ah m ma) : hg E (mh E ah m ma v ai al) (ma 69) = some (.inl (0, 14, .inl (ai 69))) := (mh_k h (by decide) (by decide +kernel)).trans rfl
theorem sm_69 {E : aEnv} {ah : aHp} {m : Nat} {ma : Nat → Nat} {v : Nat → Value} {ai : Nat → Nat → Int32} {al : Nat → Nat → Int64} (h : MO E ah m ma) {g : Nat → Int32} : hs E (mh E ah m ma v ai al) (ma 69) (.inl (0, 14, .inl g)) = mh E ah m ma v (iu ai 69 g) al := mh_ai h (by decide) (by decide +kernel) (by decide +kernel)
theorem gm_70 {ma : Nat → Nat} {v : Nat → Value} : oGF (some (.inr (11, mF ma v))) 11 70 = some (.ref (ma 70)) := by rw [oGF_is, mF_at (by decide), if_pos (by decide +kernel)]
theorem hm_70 {E : aEnv} {ah : aHp} {m : Nat} {ma : Nat → Nat} {v : Nat → Value} {ai : Nat → Nat → Int32} {al : Nat → Nat → Int64} (h : MO E ah m ma) : hg E (mh E ah m ma v ai al) (ma 70) = some (.inl (1, 20, .inr (.inl (al 70)))) := (mh_k h (by decide) (by decide +kernel)).trans rfl
theorem sm_70 {E : aEnv} {ah : aHp} {m : Nat} {ma : Nat → Nat} {v : Nat → Value} {ai : Nat → Nat → Int32} {al : Nat → Nat → Int64} (h : MO E ah m ma) {g : Nat → Int64} : hs E (mh E ah m ma v ai al) (ma 70) (.inl (1, 20, .inr (.inl g))) = mh E ah m ma v ai (lu al 70 g) := mh_al h (by decide) (by decide +kernel)
theorem gm_71 {ma : Nat → Nat} {v : Nat → Value} : oGF (some (.inr (11, mF ma v))) 11 71 = some (.ref (ma 71)) := by rw [oGF_is, mF_at (by decide), if_pos (by decide +kernel)]
theorem hm_71 {E : aEnv} {ah : aHp} {m : Nat} {ma : Nat → Nat} {v : Nat → Value} {ai : Nat → Nat → Int32} {al : Nat → Nat → Int64} (h : MO E ah m ma) : hg E (mh E ah m ma v ai al) (ma 71) = some (.inl (1, 20, .inr (.inl (al 71)))) := (mh_k h (by decide) (by decide +kernel)).trans rfl
theorem sm_71 {E : aEnv} {ah : aHp} {m : Nat} {ma : Nat → Nat} {v : Nat → Value} {ai : Nat → Nat → Int32} {al : Nat → Nat → Int64} (h : MO E ah m ma) {g : Nat → Int64} : hs E (mh E ah m ma v ai al) (ma 71) (.inl (1, 20, .inr (.inl g))) = mh E ah m ma v ai (lu al 71 g) := mh_al h (by decide) (by decide +kernel)
theorem gm_72 {ma : Nat → Nat} {v : Nat → Value} : oGF (some (.inr (11, mF ma v))) 11 72 = some (.ref (ma 72)) := by rw [oGF_is, mF_at (by decide), if_pos (by decide +kernel)]
theorem hm_72 {E : aEnv} {ah : aHp} {m : Nat} {ma : Nat → Nat} {v : Nat → Value} {ai : Nat → Nat → Int32} {al : Nat → Nat → Int64} (h : MO E ah m ma) : hg E (mh E ah m ma v ai al) (ma 72) = some (.inl (1, 1600, .inr (.inl (al 72)))) := (mh_k h (by decide) (by decide +kernel)).trans rfl
theorem sm_72 {E : aEnv} {ah : aHp} {m : Nat} {ma : Nat → Nat} {v : Nat → Value} {ai : Nat → Nat → Int32} {al : Nat → Nat → Int64} (h : MO E ah m ma) {g : Nat → Int64} : hs E (mh E ah m ma v ai al) (ma 72) (.inl (1, 1600, .inr (.inl g))) = mh E ah m ma v ai (lu al 72 g) := mh_al h (by decide) (by decide +kernel)
theorem gm_73 {ma : Nat → Nat} {v : Nat → Value} : oGF (some (.inr (11, mF ma v))) 11 73 = some (.ref (ma 73)) := by rw [oGF_is, mF_at (by decide), if_pos (by decide +kernel)]
theorem hm_73 {E : aEnv} {ah : aHp} {m : Nat} {ma : Nat → Nat} {v : Nat → Value} {ai : Nat → Nat → Int32} {al : Nat → Nat → Int64} (h : MO E ah m ma) : hg E (mh E ah m ma v ai al) (ma 73) = some (.inl (0, 20, .inl (ai 73))) := (mh_k h (by decide) (by decide +kernel)).trans rfl
theorem sm_73 {E : aEnv} {ah : aHp} {m : Nat} {ma : Nat → Nat} {v : Nat → Value} {ai : Nat → Nat → Int32} {al : Nat → Nat → Int64} (h : MO E ah m ma) {g : Nat → Int32} : hs E (mh E ah m ma v ai al) (ma 73) (.inl (0, 20, .inl g)) = mh E ah m ma v (iu ai 73 g) al := mh_ai h (by decide) (by decide +kernel) (by decide +kernel)
theorem gm_74 {ma : Nat → Nat} {v : Nat → Value} : oGF (some (.inr (11, mF ma v))) 11 74 = some (v 74) := by rw [oGF_is, mF_at (by decide), if_neg (by decide +kernel)]
theorem pm_74 {ma : Nat → Nat} {v : Nat → Value} {x : Int32} : oPF (some (.inr (11, mF ma v))) 11740 (.int x) = some (.inr (11, mF ma (vu v 74 (.int x)))) := by rw [oPF_at 11 74 0 rfl (by decide) (by decide) fit_i (by rw [mF_len]; decide), mF_set (by decide +kernel)]
theorem gm_75 {ma : Nat → Nat} {v : Nat → Value} : oGF (some (.inr (11, mF ma v))) 11 75 = some (.ref (ma 75)) := by rw [oGF_is, mF_at (by decide), if_pos (by decide +kernel)]
theorem hm_75 {E : aEnv} {ah : aHp} {m : Nat} {ma : Nat → Nat} {v : Nat → Value} {ai : Nat → Nat → Int32} {al : Nat → Nat → Int64} (h : MO E ah m ma) : hg E (mh E ah m ma v ai al) (ma 75) = some (.inl (0, 2, .inl (ai 75))) := (mh_k h (by decide) (by decide +kernel)).trans rfl
theorem sm_75 {E : aEnv} {ah : aHp} {m : Nat} {ma : Nat → Nat} {v : Nat → Value} {ai : Nat → Nat → Int32} {al : Nat → Nat → Int64} (h : MO E ah m ma) {g : Nat → Int32} : hs E (mh E ah m ma v ai al) (ma 75) (.inl (0, 2, .inl g)) = mh E ah m ma v (iu ai 75 g) al := mh_ai h (by decide) (by decide +kernel) (by decide +kernel)
theorem gm_76 {ma : Nat → Nat} {v : Nat → Value} : oGF (some (.inr (11, mF ma v))) 11 76 = some (.ref (ma 76)) := by rw [oGF_is, mF_at (by decide), if_pos (by decide +kernel)]
theorem hm_76 {E : aEnv} {ah : aHp} {m : Nat} {ma : Nat → Nat} {v : Nat → Value} {ai : Nat → Nat → Int32} {al : Nat → Nat → Int64} (h : MO E ah m ma) : hg E (mh E ah m ma v ai al) (ma 76) = some (.inl (0, 2, .inl (ai 76))) := (mh_k h (by decide) (by decide +kernel)).trans rfl
theorem sm_76 {E : aEnv} {ah : aHp} {m : Nat} {ma : Nat → Nat} {v : Nat → Value} {ai : Nat → Nat → Int32} {al : Nat → Nat → Int64} (h : MO E ah m ma) {g : Nat → Int32} : hs E (mh E ah m ma v ai al) (ma 76) (.inl (0, 2, .inl g)) = mh E ah m ma v (iu ai 76 g) al := mh_ai h (by decide) (by decide +kernel) (by decide +kernel)
theorem gm_77 {ma : Nat → Nat} {v : Nat → Value} : oGF (some (.inr (11, mF ma v))) 11 77 = some (v 77) := by rw [oGF_is, mF_at (by decide), if_neg (by decide +kernel)]
theorem pm_77 {ma : Nat → Nat} {v : Nat → Value} {x : Int32} : oPF (some (.inr (11, mF ma v))) 11770 (.int x) = some (.inr (11, mF ma (vu v 77 (.int x)))) := by rw [oPF_at 11 77 0 rfl (by decide) (by decide) fit_i (by rw [mF_len]; decide), mF_set (by decide +kernel)]
theorem gm_78 {ma : Nat → Nat} {v : Nat → Value} : oGF (some (.inr (11, mF ma v))) 11 78 = some (v 78) := by rw [oGF_is, mF_at (by decide), if_neg (by decide +kernel)]
theorem pm_78 {ma : Nat → Nat} {v : Nat → Value} {x : Int32} : oPF (some (.inr (11, mF ma v))) 11780 (.int x) = some (.inr (11, mF ma (vu v 78 (.int x)))) := by rw [oPF_at 11 78 0 rfl (by decide) (by decide) fit_i (by rw [mF_len]; decide), mF_set (by decide +kernel)]
theorem gm_79 {ma : Nat → Nat} {v : Nat → Value} : oGF (some (.inr (11, mF ma v))) 11 79 = some (v 79) := by rw [oGF_is, mF_at (by decide), if_neg (by decide +kernel)]
theorem pm_79 {ma : Nat → Nat} {v : Nat → Value} {x : Int32} : oPF (some (.inr (11, mF ma v))) 11790 (.int x) = some (.inr (11, mF ma (vu v 79 (.int x)))) := by rw [oPF_at 11 79 0 rfl (by decide) (by decide) fit_i (by rw [mF_len]; decide), mF_set (by decide +kernel)]
theorem gm_80 {ma : Nat → Nat} {v : Nat → Value} : oGF (some (.inr (11, mF ma v))) 11 80 = some (v 80) := by rw [oGF_is, mF_at (by decide), if_neg (by decide +kernel)]
theorem pm_80 {ma : Nat → Nat} {v : Nat → Value} {x : Int32} : oPF (some (.inr (11, mF ma v))) 11800 (.int x) = some (.inr (11, mF ma (vu v 80 (.int x)))) := by rw [oPF_at 11 80 0 rfl (by decide) (by decide) fit_i (by rw [mF_len]; decide), mF_set (by decide +kernel)]
theorem gm_81 {ma : Nat → Nat} {v : Nat → Value} : oGF (some (.inr (11, mF ma v))) 11 81 = some (v 81) := by rw [oGF_is, mF_at (by decide), if_neg (by decide +kernel)]
theorem pm_81 {ma : Nat → Nat} {v : Nat → Value} {x : Int32} : oPF (some (.inr (11, mF ma v))) 11810 (.int x) = some (.inr (11, mF ma (vu v 81 (.int x)))) := by rw [oPF_at 11 81 0 rfl (by decide) (by decide) fit_i (by rw [mF_len]; decide), mF_set (by decide +kernel)]
theorem gm_82 {ma : Nat → Nat} {v : Nat → Value} : oGF (some (.inr (11, mF ma v))) 11 82 = some (v 82) := by rw [oGF_is, mF_at (by decide), if_neg (by decide +kernel)]
theorem pm_82 {ma : Nat → Nat} {v : Nat → Value} {x : Int32} : oPF (some (.inr (11, mF ma v))) 11820 (.int x) = some (.inr (11, mF ma (vu v 82 (.int x)))) := by rw [oPF_at 11 82 0 rfl (by decide) (by decide) fit_i (by rw [mF_len]; decide), mF_set (by decide +kernel)]
theorem gm_83 {ma : Nat → Nat} {v : Nat → Value} : oGF (some (.inr (11, mF ma v))) 11 83 = some (.ref (ma 83)) := by rw [oGF_is, mF_at (by decide), if_pos (by decide +kernel)]
theorem hm_83 {E : aEnv} {ah : aHp} {m : Nat} {ma : Nat → Nat} {v : Nat → Value} {ai : Nat → Nat → Int32} {al : Nat → Nat → Int64} (h : MO E ah m ma) : hg E (mh E ah m ma v ai al) (ma 83) = some (.inl (0, 100, .inl (ai 83))) := (mh_k h (by decide) (by decide +kernel)).trans rfl
theorem sm_83 {E : aEnv} {ah : aHp} {m : Nat} {ma : Nat → Nat} {v : Nat → Value} {ai : Nat → Nat → Int32} {al : Nat → Nat → Int64} (h : MO E ah m ma) {g : Nat → Int32} : hs E (mh E ah m ma v ai al) (ma 83) (.inl (0, 100, .inl g)) = mh E ah m ma v (iu ai 83 g) al := mh_ai h (by decide) (by decide +kernel) (by decide +kernel)
theorem gm_84 {ma : Nat → Nat} {v : Nat → Value} : oGF (some (.inr (11, mF ma v))) 11 84 = some (.ref (ma 84)) := by rw [oGF_is, mF_at (by decide), if_pos (by decide +kernel)]
theorem hm_84 {E : aEnv} {ah : aHp} {m : Nat} {ma : Nat → Nat} {v : Nat → Value} {ai : Nat → Nat → Int32} {al : Nat → Nat → Int64} (h : MO E ah m ma) : hg E (mh E ah m ma v ai al) (ma 84) = some (.inl (0, 100, .inl (ai 84))) := (mh_k h (by decide) (by decide +kernel)).trans rfl
theorem sm_84 {E : aEnv} {ah : aHp} {m : Nat} {ma : Nat → Nat} {v : Nat → Value} {ai : Nat → Nat → Int32} {al : Nat → Nat → Int64} (h : MO E ah m ma) {g : Nat → Int32} : hs E (mh E ah m ma v ai al) (ma 84) (.inl (0, 100, .inl g)) = mh E ah m ma v (iu ai 84 g) al := mh_ai h (by decide) (by decide +kernel) (by decide +kernel)
theorem gm_85 {ma : Nat → Nat} {v : Nat → Value} : oGF (some (.inr (11, mF ma v))) 11 85 = some (.ref (ma 85)) := by rw [oGF_is, mF_at (by decide), if_pos (by decide +kernel)]
theorem hm_85 {E : aEnv} {ah : aHp} {m : Nat} {ma : Nat → Nat} {v : Nat → Value} {ai : Nat → Nat → Int32} {al : Nat → Nat → Int64} (h : MO E ah m ma) : hg E (mh E ah m ma v ai al) (ma 85) = some (.inl (0, 20, .inl (ai 85))) := (mh_k h (by decide) (by decide +kernel)).trans rfl
theorem sm_85 {E : aEnv} {ah : aHp} {m : Nat} {ma : Nat → Nat} {v : Nat → Value} {ai : Nat → Nat → Int32} {al : Nat → Nat → Int64} (h : MO E ah m ma) {g : Nat → Int32} : hs E (mh E ah m ma v ai al) (ma 85) (.inl (0, 20, .inl g)) = mh E ah m ma v (iu ai 85 g) al := mh_ai h (by decide) (by decide +kernel) (by decide +kernel)
theorem gm_86 {ma : Nat → Nat} {v : Nat → Value} : oGF (some (.inr (11, mF ma v))) 11 86 = some (.ref (ma 86)) := by rw [oGF_is, mF_at (by decide), if_pos (by decide +kernel)]
theorem hm_86 {E : aEnv} {ah : aHp} {m : Nat} {ma : Nat → Nat} {v : Nat → Value} {ai : Nat → Nat → Int32} {al : Nat → Nat → Int64} (h : MO E ah m ma) : hg E (mh E ah m ma v ai al) (ma 86) = some (.inl (0, 20, .inl (ai 86))) := (mh_k h (by decide) (by decide +kernel)).trans rfl
theorem sm_86 {E : aEnv} {ah : aHp} {m : Nat} {ma : Nat → Nat} {v : Nat → Value} {ai : Nat → Nat → Int32} {al : Nat → Nat → Int64} (h : MO E ah m ma) {g : Nat → Int32} : hs E (mh E ah m ma v ai al) (ma 86) (.inl (0, 20, .inl g)) = mh E ah m ma v (iu ai 86 g) al := mh_ai h (by decide) (by decide +kernel) (by decide +kernel)
theorem gm_87 {ma : Nat → Nat} {v : Nat → Value} : oGF (some (.inr (11, mF ma v))) 11 87 = some (.ref (ma 87)) := by rw [oGF_is, mF_at (by decide), if_pos (by decide +kernel)]
theorem hm_87 {E : aEnv} {ah : aHp} {m : Nat} {ma : Nat → Nat} {v : Nat → Value} {ai : Nat → Nat → Int32} {al : Nat → Nat → Int64} (h : MO E ah m ma) : hg E (mh E ah m ma v ai al) (ma 87) = some (.inl (0, 60, .inl (ai 87))) := (mh_k h (by decide) (by decide +kernel)).trans rfl
theorem sm_87 {E : aEnv} {ah : aHp} {m : Nat} {ma : Nat → Nat} {v : Nat → Value} {ai : Nat → Nat → Int32} {al : Nat → Nat → Int64} (h : MO E ah m ma) {g : Nat → Int32} : hs E (mh E ah m ma v ai al) (ma 87) (.inl (0, 60, .inl g)) = mh E ah m ma v (iu ai 87 g) al := mh_ai h (by decide) (by decide +kernel) (by decide +kernel)
theorem gm_88 {ma : Nat → Nat} {v : Nat → Value} : oGF (some (.inr (11, mF ma v))) 11 88 = some (.ref (ma 88)) := by rw [oGF_is, mF_at (by decide), if_pos (by decide +kernel)]
theorem hm_88 {E : aEnv} {ah : aHp} {m : Nat} {ma : Nat → Nat} {v : Nat → Value} {ai : Nat → Nat → Int32} {al : Nat → Nat → Int64} (h : MO E ah m ma) : hg E (mh E ah m ma v ai al) (ma 88) = some (.inl (0, 60, .inl (ai 88))) := (mh_k h (by decide) (by decide +kernel)).trans rfl
theorem sm_88 {E : aEnv} {ah : aHp} {m : Nat} {ma : Nat → Nat} {v : Nat → Value} {ai : Nat → Nat → Int32} {al : Nat → Nat → Int64} (h : MO E ah m ma) {g : Nat → Int32} : hs E (mh E ah m ma v ai al) (ma 88) (.inl (0, 60, .inl g)) = mh E ah m ma v (iu ai 88 g) al := mh_ai h (by decide) (by decide +kernel) (by decide +kernel)
theorem gm_89 {ma : Nat → Nat} {v : Nat → Value} : oGF (some (.inr (11, mF ma v))) 11 89 = some (.ref (ma 89)) := by rw [oGF_is, mF_at (by decide), if_pos (by decide +kernel)]
theorem hm_89 {E : aEnv} {ah : aHp} {m : Nat} {ma : Nat → Nat} {v : Nat → Value} {ai : Nat → Nat → Int32} {al : Nat → Nat → Int64} (h : MO E ah m ma) : hg E (mh E ah m ma v ai al) (ma 89) = some (.inl (0, 60, .inl (ai 89))) := (mh_k h (by decide) (by decide +kernel)).trans rfl
theorem sm_89 {E : aEnv} {ah : aHp} {m : Nat} {ma : Nat → Nat} {v : Nat → Value} {ai : Nat → Nat → Int32} {al : Nat → Nat → Int64} (h : MO E ah m ma) {g : Nat → Int32} : hs E (mh E ah m ma v ai al) (ma 89) (.inl (0, 60, .inl g)) = mh E ah m ma v (iu ai 89 g) al := mh_ai h (by decide) (by decide +kernel) (by decide +kernel)
theorem gm_90 {ma : Nat → Nat} {v : Nat → Value} : oGF (some (.inr (11, mF ma v))) 11 90 = some (.ref (ma 90)) := by rw [oGF_is, mF_at (by decide), if_pos (by decide +kernel)]
theorem hm_90 {E : aEnv} {ah : aHp} {m : Nat} {ma : Nat → Nat} {v : Nat → Value} {ai : Nat → Nat → Int32} {al : Nat → Nat → Int64} (h : MO E ah m ma) : hg E (mh E ah m ma v ai al) (ma 90) = some (.inl (0, 7, .inl (ai 90))) := (mh_k h (by decide) (by decide +kernel)).trans rfl
theorem sm_90 {E : aEnv} {ah : aHp} {m : Nat} {ma : Nat → Nat} {v : Nat → Value} {ai : Nat → Nat → Int32} {al : Nat → Nat → Int64} (h : MO E ah m ma) {g : Nat → Int32} : hs E (mh E ah m ma v ai al) (ma 90) (.inl (0, 7, .inl g)) = mh E ah m ma v (iu ai 90 g) al := mh_ai h (by decide) (by decide +kernel) (by decide +kernel)
theorem gm_91 {ma : Nat → Nat} {v : Nat → Value} : oGF (some (.inr (11, mF ma v))) 11 91 = some (.ref (ma 91)) := by rw [oGF_is, mF_at (by decide), if_pos (by decide +kernel)]
theorem hm_91 {E : aEnv} {ah : aHp} {m : Nat} {ma : Nat → Nat} {v : Nat → Value} {ai : Nat → Nat → Int32} {al : Nat → Nat → Int64} (h : MO E ah m ma) : hg E (mh E ah m ma v ai al) (ma 91) = some (.inl (0, 7, .inl (ai 91))) := (mh_k h (by decide) (by decide +kernel)).trans rfl
theorem sm_91 {E : aEnv} {ah : aHp} {m : Nat} {ma : Nat → Nat} {v : Nat → Value} {ai : Nat → Nat → Int32} {al : Nat → Nat → Int64} (h : MO E ah m ma) {g : Nat → Int32} : hs E (mh E ah m ma v ai al) (ma 91) (.inl (0, 7, .inl g)) = mh E ah m ma v (iu ai 91 g) al := mh_ai h (by decide) (by decide +kernel) (by decide +kernel)
theorem gm_92 {ma : Nat → Nat} {v : Nat → Value} : oGF (some (.inr (11, mF ma v))) 11 92 = some (.ref (ma 92)) := by rw [oGF_is, mF_at (by decide), if_pos (by decide +kernel)]
theorem hm_92 {E : aEnv} {ah : aHp} {m : Nat} {ma : Nat → Nat} {v : Nat → Value} {ai : Nat → Nat → Int32} {al : Nat → Nat → Int64} (h : MO E ah m ma) : hg E (mh E ah m ma v ai al) (ma 92) = some (.inl (0, 7, .inl (ai 92))) := (mh_k h (by decide) (by decide +kernel)).trans rfl
theorem sm_92 {E : aEnv} {ah : aHp} {m : Nat} {ma : Nat → Nat} {v : Nat → Value} {ai : Nat → Nat → Int32} {al : Nat → Nat → Int64} (h : MO E ah m ma) {g : Nat → Int32} : hs E (mh E ah m ma v ai al) (ma 92) (.inl (0, 7, .inl g)) = mh E ah m ma v (iu ai 92 g) al := mh_ai h (by decide) (by decide +kernel) (by decide +kernel)
theorem gm_93 {ma : Nat → Nat} {v : Nat → Value} : oGF (some (.inr (11, mF ma v))) 11 93 = some (.ref (ma 93)) := by rw [oGF_is, mF_at (by decide), if_pos (by decide +kernel)]
theorem hm_93 {E : aEnv} {ah : aHp} {m : Nat} {ma : Nat → Nat} {v : Nat → Value} {ai : Nat → Nat → Int32} {al : Nat → Nat → Int64} (h : MO E ah m ma) : hg E (mh E ah m ma v ai al) (ma 93) = some (.inl (0, 7, .inl (ai 93))) := (mh_k h (by decide) (by decide +kernel)).trans rfl
theorem sm_93 {E : aEnv} {ah : aHp} {m : Nat} {ma : Nat → Nat} {v : Nat → Value} {ai : Nat → Nat → Int32} {al : Nat → Nat → Int64} (h : MO E ah m ma) {g : Nat → Int32} : hs E (mh E ah m ma v ai al) (ma 93) (.inl (0, 7, .inl g)) = mh E ah m ma v (iu ai 93 g) al := mh_ai h (by decide) (by decide +kernel) (by decide +kernel)
theorem gm_94 {ma : Nat → Nat} {v : Nat → Value} : oGF (some (.inr (11, mF ma v))) 11 94 = some (.ref (ma 94)) := by rw [oGF_is, mF_at (by decide), if_pos (by decide +kernel)]
theorem hm_94 {E : aEnv} {ah : aHp} {m : Nat} {ma : Nat → Nat} {v : Nat → Value} {ai : Nat → Nat → Int32} {al : Nat → Nat → Int64} (h : MO E ah m ma) : hg E (mh E ah m ma v ai al) (ma 94) = some (.inl (0, 7, .inl (ai 94))) := (mh_k h (by decide) (by decide +kernel)).trans rfl
theorem sm_94 {E : aEnv} {ah : aHp} {m : Nat} {ma : Nat → Nat} {v : Nat → Value} {ai : Nat → Nat → Int32} {al : Nat → Nat → Int64} (h : MO E ah m ma) {g : Nat → Int32} : hs E (mh E ah m ma v ai al) (ma 94) (.inl (0, 7, .inl g)) = mh E ah m ma v (iu ai 94 g) al := mh_ai h (by decide) (by decide +kernel) (by decide +kernel)
theorem gm_95 {ma : Nat → Nat} {v : Nat → Value} : oGF (some (.inr (11, mF ma v))) 11 95 = some (.ref (ma 95)) := by rw [oGF_is, mF_at (by decide), if_pos (by decide +kernel)]
theorem hm_95 {E : aEnv} {ah : aHp} {m : Nat} {ma : Nat → Nat} {v : Nat → Value} {ai : Nat → Nat → Int32} {al : Nat → Nat → Int64} (h : MO E ah m ma) : hg E (mh E ah m ma v ai al) (ma 95) = some (.inl (0, 4, .inl (ai 95))) := (mh_k h (by decide) (by decide +kernel)).trans rfl
theorem sm_95 {E : aEnv} {ah : aHp} {m : Nat} {ma : Nat → Nat} {v : Nat → Value} {ai : Nat → Nat → Int32} {al : Nat → Nat → Int64} (h : MO E ah m ma) {g : Nat → Int32} : hs E (mh E ah m ma v ai al) (ma 95) (.inl (0, 4, .inl g)) = mh E ah m ma v (iu ai 95 g) al := mh_ai h (by decide) (by decide +kernel) (by decide +kernel)
theorem gm_96 {ma : Nat → Nat} {v : Nat → Value} : oGF (some (.inr (11, mF ma v))) 11 96 = some (.ref (ma 96)) := by rw [oGF_is, mF_at (by decide), if_pos (by decide +kernel)]
theorem hm_96 {E : aEnv} {ah : aHp} {m : Nat} {ma : Nat → Nat} {v : Nat → Value} {ai : Nat → Nat → Int32} {al : Nat → Nat → Int64} (h : MO E ah m ma) : hg E (mh E ah m ma v ai al) (ma 96) = some (.inl (1, 5, .inr (.inl (al 96)))) := (mh_k h (by decide) (by decide +kernel)).trans rfl
theorem sm_96 {E : aEnv} {ah : aHp} {m : Nat} {ma : Nat → Nat} {v : Nat → Value} {ai : Nat → Nat → Int32} {al : Nat → Nat → Int64} (h : MO E ah m ma) {g : Nat → Int64} : hs E (mh E ah m ma v ai al) (ma 96) (.inl (1, 5, .inr (.inl g))) = mh E ah m ma v ai (lu al 96 g) := mh_al h (by decide) (by decide +kernel)
theorem gm_97 {ma : Nat → Nat} {v : Nat → Value} : oGF (some (.inr (11, mF ma v))) 11 97 = some (.ref (ma 97)) := by rw [oGF_is, mF_at (by decide), if_pos (by decide +kernel)]
theorem hm_97 {E : aEnv} {ah : aHp} {m : Nat} {ma : Nat → Nat} {v : Nat → Value} {ai : Nat → Nat → Int32} {al : Nat → Nat → Int64} (h : MO E ah m ma) : hg E (mh E ah m ma v ai al) (ma 97) = some (.inl (0, 2, .inl (ai 97))) := (mh_k h (by decide) (by decide +kernel)).trans rfl
theorem sm_97 {E : aEnv} {ah : aHp} {m : Nat} {ma : Nat → Nat} {v : Nat → Value} {ai : Nat → Nat → Int32} {al : Nat → Nat → Int64} (h : MO E ah m ma) {g : Nat → Int32} : hs E (mh E ah m ma v ai al) (ma 97) (.inl (0, 2, .inl g)) = mh E ah m ma v (iu ai 97 g) al := mh_ai h (by decide) (by decide +kernel) (by decide +kernel)
theorem gm_98 {ma : Nat → Nat} {v : Nat → Value} : oGF (some (.inr (11, mF ma v))) 11 98 = some (.ref (ma 98)) := by rw [oGF_is, mF_at (by decide), if_pos (by decide +kernel)]
theorem hm_98 {E : aEnv} {ah : aHp} {m : Nat} {ma : Nat → Nat} {v : Nat → Value} {ai : Nat → Nat → Int32} {al : Nat → Nat → Int64} (h : MO E ah m ma) : hg E (mh E ah m ma v ai al) (ma 98) = some (.inl (0, 2, .inl (ai 98))) := (mh_k h (by decide) (by decide +kernel)).trans rfl
theorem sm_98 {E : aEnv} {ah : aHp} {m : Nat} {ma : Nat → Nat} {v : Nat → Value} {ai : Nat → Nat → Int32} {al : Nat → Nat → Int64} (h : MO E ah m ma) {g : Nat → Int32} : hs E (mh E ah m ma v ai al) (ma 98) (.inl (0, 2, .inl g)) = mh E ah m ma v (iu ai 98 g) al := mh_ai h (by decide) (by decide +kernel) (by decide +kernel)

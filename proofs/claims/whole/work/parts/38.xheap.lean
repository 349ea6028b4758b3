/-! THE CLASS' CELLS AS ONE STATE: S k is what stands at A k -/
noncomputable def oca (A : Nat → Nat) (S : Nat → aE) (q : Nat) (e : aE) : aE := @dite aE (∃ k, A k = q) (Classical.propDecidable _) (fun h => S h.choose) (fun _ => e)
noncomputable def oh (E : aEnv) (ah : aHp) (A : Nat → Nat) (S : Nat → aE) : aHp := ah.mapIdx fun i e => oca A S (E.1 + i) e
noncomputable def su (S : Nat → aE) (k : Nat) (e : aE) : Nat → aE := fun j => if j = k then e else S j
/-- apart; the first 81 are there -/
noncomputable def XO (E : aEnv) (ah : aHp) (A : Nat → Nat) : Prop := (∀ j k, A j = A k → j = k) ∧ ∀ k, k < 81 → ∃ e, hg E ah (A k) = some e
section OH
variable {E : aEnv} {ah : aHp} {A : Nat → Nat} {S : Nat → aE}
theorem oh_len : (oh E ah A S).length = ah.length := by simp [oh]
theorem oh_hg (q : Nat) : hg E (oh E ah A S) q = (hg E ah q).map (oca A S q) := by
  unfold hg oh
  split
  · next h =>
    rw [List.getElem?_mapIdx, Nat.add_sub_cancel' h]
  · rfl
theorem oca_k (h : ∀ j k, A j = A k → j = k) (k : Nat) (e : aE) : oca A S (A k) e = S k := by
  unfold oca
  have hx : ∃ j, A j = A k := ⟨k, rfl⟩
  rw [dif_pos hx, h _ _ hx.choose_spec]
theorem oca_n {q : Nat} (h : ∀ k, A k ≠ q) (e : aE) : oca A S q e = e := by
  unfold oca
  rw [dif_neg]
  rintro ⟨k, hk⟩
  exact h k hk
theorem oh_g (h : ∀ j k, A j = A k → j = k) {k : Nat} (he : ∃ e, hg E ah (A k) = some e) : hg E (oh E ah A S) (A k) = some (S k) := by
  obtain ⟨e, he⟩ := he
  rw [oh_hg, he]
  simp [oca_k h]
theorem oh_other {q : Nat} (h : ∀ k, A k ≠ q) : hg E (oh E ah A S) q = hg E ah q := by
  rw [oh_hg]
  cases hg E ah q with
  | none => rfl
  | some e => simp [oca_n h]
theorem oh_s (h : ∀ j k, A j = A k → j = k) {k : Nat} (he : ∃ e, hg E ah (A k) = some e) {e' : aE} : hs E (oh E ah A S) (A k) e' = oh E ah A (su S k e') := by
  apply hp_ext (E := E)
  · rw [hs_len, oh_len, oh_len]
  · intro q hb
    by_cases hq : A k = q
    · subst hq
      rw [hg_same (oh_g h he), oh_g h he]
      simp [su]
    · rw [hg_ne hq]
      by_cases hx : ∃ j, A j = q
      · obtain ⟨j, rfl⟩ := hx
        have hj : ¬ j = k := fun z => hq (by rw [z])
        rw [oh_hg, oh_hg]
        cases hg E ah (A j) with
        | none => rfl
        | some e => simp [oca_k h, su, hj]
      · have hn : ∀ k, A k ≠ q := fun k hk => hx ⟨k, hk⟩
        rw [oh_other hn, oh_other hn]
end OH

theorem hx_0 {E : aEnv} {ah : aHp} {A : Nat → Nat} {S : Nat → aE} (h : XO E ah A) : hg E (oh E ah A S) (A 0) = some (S 0) := oh_g h.1 (h.2 0 (by decide))
theorem sx_0 {E : aEnv} {ah : aHp} {A : Nat → Nat} {S : Nat → aE} (h : XO E ah A) {e : aE} : hs E (oh E ah A S) (A 0) e = oh E ah A (su S 0 e) := oh_s h.1 (h.2 0 (by decide))
theorem hx_1 {E : aEnv} {ah : aHp} {A : Nat → Nat} {S : Nat → aE} (h : XO E ah A) : hg E (oh E ah A S) (A 1) = some (S 1) := oh_g h.1 (h.2 1 (by decide))
theorem sx_1 {E : aEnv} {ah : aHp} {A : Nat → Nat} {S : Nat → aE} (h : XO E ah A) {e : aE} : hs E (oh E ah A S) (A 1) e = oh E ah A (su S 1 e) := oh_s h.1 (h.2 1 (by decide))
theorem hx_2 {E : aEnv} {ah : aHp} {A : Nat → Nat} {S : Nat → aE} (h : XO E ah A) : hg E (oh E ah A S) (A 2) = some (S 2) := oh_g h.1 (h.2 2 (by decide))
theorem sx_2 {E : aEnv} {ah : aHp} {A : Nat → Nat} {S : Nat → aE} (h : XO E ah A) {e : aE} : hs E (oh E ah A S) (A 2) e = oh E ah A (su S 2 e) := oh_s h.1 (h.2 2 (by decide))
theorem hx_3 {E : aEnv} {ah : aHp} {A : Nat → Nat} {S : Nat → aE} (h : XO E ah A) : hg E (oh E ah A S) (A 3) = some (S 3) := oh_g h.1 (h.2 3 (by decide))
theorem sx_3 {E : aEnv} {ah : aHp} {A : Nat → Nat} {S : Nat → aE} (h : XO E ah A) {e : aE} : hs E (oh E ah A S) (A 3) e = oh E ah A (su S 3 e) := oh_s h.1 (h.2 3 (by decide))
theorem hx_4 {E : aEnv} {ah : aHp} {A : Nat → Nat} {S : Nat → aE} (h : XO E ah A) : hg E (oh E ah A S) (A 4) = some (S 4) := oh_g h.1 (h.2 4 (by decide))
theorem sx_4 {E : aEnv} {ah : aHp} {A : Nat → Nat} {S : Nat → aE} (h : XO E ah A) {e : aE} : hs E (oh E ah A S) (A 4) e = oh E ah A (su S 4 e) := oh_s h.1 (h.2 4 (by decide))
theorem hx_5 {E : aEnv} {ah : aHp} {A : Nat → Nat} {S : Nat → aE} (h : XO E ah A) : hg E (oh E ah A S) (A 5) = some (S 5) := oh_g h.1 (h.2 5 (by decide))
theorem sx_5 {E : aEnv} {ah : aHp} {A : Nat → Nat} {S : Nat → aE} (h : XO E ah A) {e : aE} : hs E (oh E ah A S) (A 5) e = oh E ah A (su S 5 e) := oh_s h.1 (h.2 5 (by decide))
theorem hx_6 {E : aEnv} {ah : aHp} {A : Nat → Nat} {S : Nat → aE} (h : XO E ah A) : hg E (oh E ah A S) (A 6) = some (S 6) := oh_g h.1 (h.2 6 (by decide))
theorem sx_6 {E : aEnv} {ah : aHp} {A : Nat → Nat} {S : Nat → aE} (h : XO E ah A) {e : aE} : hs E (oh E ah A S) (A 6) e = oh E ah A (su S 6 e) := oh_s h.1 (h.2 6 (by decide))
theorem hx_7 {E : aEnv} {ah : aHp} {A : Nat → Nat} {S : Nat → aE} (h : XO E ah A) : hg E (oh E ah A S) (A 7) = some (S 7) := oh_g h.1 (h.2 7 (by decide))
theorem sx_7 {E : aEnv} {ah : aHp} {A : Nat → Nat} {S : Nat → aE} (h : XO E ah A) {e : aE} : hs E (oh E ah A S) (A 7) e = oh E ah A (su S 7 e) := oh_s h.1 (h.2 7 (by decide))
theorem hx_8 {E : aEnv} {ah : aHp} {A : Nat → Nat} {S : Nat → aE} (h : XO E ah A) : hg E (oh E ah A S) (A 8) = some (S 8) := oh_g h.1 (h.2 8 (by decide))
theorem sx_8 {E : aEnv} {ah : aHp} {A : Nat → Nat} {S : Nat → aE} (h : XO E ah A) {e : aE} : hs E (oh E ah A S) (A 8) e = oh E ah A (su S 8 e) := oh_s h.1 (h.2 8 (by decide))
theorem hx_9 {E : aEnv} {ah : aHp} {A : Nat → Nat} {S : Nat → aE} (h : XO E ah A) : hg E (oh E ah A S) (A 9) = some (S 9) := oh_g h.1 (h.2 9 (by decide))
theorem sx_9 {E : aEnv} {ah : aHp} {A : Nat → Nat} {S : Nat → aE} (h : XO E ah A) {e : aE} : hs E (oh E ah A S) (A 9) e = oh E ah A (su S 9 e) := oh_s h.1 (h.2 9 (by decide))
theorem hx_10 {E : aEnv} {ah : aHp} {A : Nat → Nat} {S : Nat → aE} (h : XO E ah A) : hg E (oh E ah A S) (A 10) = some (S 10) := oh_g h.1 (h.2 10 (by decide))
theorem sx_10 {E : aEnv} {ah : aHp} {A : Nat → Nat} {S : Nat → aE} (h : XO E ah A) {e : aE} : hs E (oh E ah A S) (A 10) e = oh E ah A (su S 10 e) := oh_s h.1 (h.2 10 (by decide))
theorem hx_11 {E : aEnv} {ah : aHp} {A : Nat → Nat} {S : Nat → aE} (h : XO E ah A) : hg E (oh E ah A S) (A 11) = some (S 11) := oh_g h.1 (h.2 11 (by decide))
theorem sx_11 {E : aEnv} {ah : aHp} {A : Nat → Nat} {S : Nat → aE} (h : XO E ah A) {e : aE} : hs E (oh E ah A S) (A 11) e = oh E ah A (su S 11 e) := oh_s h.1 (h.2 11 (by decide))
theorem hx_12 {E : aEnv} {ah : aHp} {A : Nat → Nat} {S : Nat → aE} (h : XO E ah A) : hg E (oh E ah A S) (A 12) = some (S 12) := oh_g h.1 (h.2 12 (by decide))
theorem sx_12 {E : aEnv} {ah : aHp} {A : Nat → Nat} {S : Nat → aE} (h : XO E ah A) {e : aE} : hs E (oh E ah A S) (A 12) e = oh E ah A (su S 12 e) := oh_s h.1 (h.2 12 (by decide))
theorem hx_13 {E : aEnv} {ah : aHp} {A : Nat → Nat} {S : Nat → aE} (h : XO E ah A) : hg E (oh E ah A S) (A 13) = some (S 13) := oh_g h.1 (h.2 13 (by decide))
theorem sx_13 {E : aEnv} {ah : aHp} {A : Nat → Nat} {S : Nat → aE} (h : XO E ah A) {e : aE} : hs E (oh E ah A S) (A 13) e = oh E ah A (su S 13 e) := oh_s h.1 (h.2 13 (by decide))
theorem hx_14 {E : aEnv} {ah : aHp} {A : Nat → Nat} {S : Nat → aE} (h : XO E ah A) : hg E (oh E ah A S) (A 14) = some (S 14) := oh_g h.1 (h.2 14 (by decide))
theorem sx_14 {E : aEnv} {ah : aHp} {A : Nat → Nat} {S : Nat → aE} (h : XO E ah A) {e : aE} : hs E (oh E ah A S) (A 14) e = oh E ah A (su S 14 e) := oh_s h.1 (h.2 14 (by decide))
theorem hx_15 {E : aEnv} {ah : aHp} {A : Nat → Nat} {S : Nat → aE} (h : XO E ah A) : hg E (oh E ah A S) (A 15) = some (S 15) := oh_g h.1 (h.2 15 (by decide))
theorem sx_15 {E : aEnv} {ah : aHp} {A : Nat → Nat} {S : Nat → aE} (h : XO E ah A) {e : aE} : hs E (oh E ah A S) (A 15) e = oh E ah A (su S 15 e) := oh_s h.1 (h.2 15 (by decide))
theorem hx_16 {E : aEnv} {ah : aHp} {A : Nat → Nat} {S : Nat → aE} (h : XO E ah A) : hg E (oh E ah A S) (A 16) = some (S 16) := oh_g h.1 (h.2 16 (by decide))
theorem sx_16 {E : aEnv} {ah : aHp} {A : Nat → Nat} {S : Nat → aE} (h : XO E ah A) {e : aE} : hs E (oh E ah A S) (A 16) e = oh E ah A (su S 16 e) := oh_s h.1 (h.2 16 (by decide))
theorem hx_17 {E : aEnv} {ah : aHp} {A : Nat → Nat} {S : Nat → aE} (h : XO E ah A) : hg E (oh E ah A S) (A 17) = some (S 17) := oh_g h.1 (h.2 17 (by decide))
theorem sx_17 {E : aEnv} {ah : aHp} {A : Nat → Nat} {S : Nat → aE} (h : XO E ah A) {e : aE} : hs E (oh E ah A S) (A 17) e = oh E ah A (su S 17 e) := oh_s h.1 (h.2 17 (by decide))
theorem hx_18 {E : aEnv} {ah : aHp} {A : Nat → Nat} {S : Nat → aE} (h : XO E ah A) : hg E (oh E ah A S) (A 18) = some (S 18) := oh_g h.1 (h.2 18 (by decide))
theorem sx_18 {E : aEnv} {ah : aHp} {A : Nat → Nat} {S : Nat → aE} (h : XO E ah A) {e : aE} : hs E (oh E ah A S) (A 18) e = oh E ah A (su S 18 e) := oh_s h.1 (h.2 18 (by decide))
theorem hx_19 {E : aEnv} {ah : aHp} {A : Nat → Nat} {S : Nat → aE} (h : XO E ah A) : hg E (oh E ah A S) (A 19) = some (S 19) := oh_g h.1 (h.2 19 (by decide))
theorem sx_19 {E : aEnv} {ah : aHp} {A : Nat → Nat} {S : Nat → aE} (h : XO E ah A) {e : aE} : hs E (oh E ah A S) (A 19) e = oh E ah A (su S 19 e) := oh_s h.1 (h.2 19 (by decide))
theorem hx_20 {E : aEnv} {ah : aHp} {A : Nat → Nat} {S : Nat → aE} (h : XO E ah A) : hg E (oh E ah A S) (A 20) = some (S 20) := oh_g h.1 (h.2 20 (by decide))
theorem sx_20 {E : aEnv} {ah : aHp} {A : Nat → Nat} {S : Nat → aE} (h : XO E ah A) {e : aE} : hs E (oh E ah A S) (A 20) e = oh E ah A (su S 20 e) := oh_s h.1 (h.2 20 (by decide))
theorem hx_21 {E : aEnv} {ah : aHp} {A : Nat → Nat} {S : Nat → aE} (h : XO E ah A) : hg E (oh E ah A S) (A 21) = some (S 21) := oh_g h.1 (h.2 21 (by decide))
theorem sx_21 {E : aEnv} {ah : aHp} {A : Nat → Nat} {S : Nat → aE} (h : XO E ah A) {e : aE} : hs E (oh E ah A S) (A 21) e = oh E ah A (su S 21 e) := oh_s h.1 (h.2 21 (by decide))
theorem hx_22 {E : aEnv} {ah : aHp} {A : Nat → Nat} {S : Nat → aE} (h : XO E ah A) : hg E (oh E ah A S) (A 22) = some (S 22) := oh_g h.1 (h.2 22 (by decide))
theorem sx_22 {E : aEnv} {ah : aHp} {A : Nat → Nat} {S : Nat → aE} (h : XO E ah A) {e : aE} : hs E (oh E ah A S) (A 22) e = oh E ah A (su S 22 e) := oh_s h.1 (h.2 22 (by decide))
theorem hx_23 {E : aEnv} {ah : aHp} {A : Nat → Nat} {S : Nat → aE} (h : XO E ah A) : hg E (oh E ah A S) (A 23) = some (S 23) := oh_g h.1 (h.2 23 (by decide))
theorem sx_23 {E : aEnv} {ah : aHp} {A : Nat → Nat} {S : Nat → aE} (h : XO E ah A) {e : aE} : hs E (oh E ah A S) (A 23) e = oh E ah A (su S 23 e) := oh_s h.1 (h.2 23 (by decide))
theorem hx_24 {E : aEnv} {ah : aHp} {A : Nat → Nat} {S : Nat → aE} (h : XO E ah A) : hg E (oh E ah A S) (A 24) = some (S 24) := oh_g h.1 (h.2 24 (by decide))
theorem sx_24 {E : aEnv} {ah : aHp} {A : Nat → Nat} {S : Nat → aE} (h : XO E ah A) {e : aE} : hs E (oh E ah A S) (A 24) e = oh E ah A (su S 24 e) := oh_s h.1 (h.2 24 (by decide))
theorem hx_25 {E : aEnv} {ah : aHp} {A : Nat → Nat} {S : Nat → aE} (h : XO E ah A) : hg E (oh E ah A S) (A 25) = some (S 25) := oh_g h.1 (h.2 25 (by decide))
theorem sx_25 {E : aEnv} {ah : aHp} {A : Nat → Nat} {S : Nat → aE} (h : XO E ah A) {e : aE} : hs E (oh E ah A S) (A 25) e = oh E ah A (su S 25 e) := oh_s h.1 (h.2 25 (by decide))
theorem hx_26 {E : aEnv} {ah : aHp} {A : Nat → Nat} {S : Nat → aE} (h : XO E ah A) : hg E (oh E ah A S) (A 26) = some (S 26) := oh_g h.1 (h.2 26 (by decide))
theorem sx_26 {E : aEnv} {ah : aHp} {A : Nat → Nat} {S : Nat → aE} (h : XO E ah A) {e : aE} : hs E (oh E ah A S) (A 26) e = oh E ah A (su S 26 e) := oh_s h.1 (h.2 26 (by decide))
theorem hx_27 {E : aEnv} {ah : aHp} {A : Nat → Nat} {S : Nat → aE} (h : XO E ah A) : hg E (oh E ah A S) (A 27) = some (S 27) := oh_g h.1 (h.2 27 (by decide))
theorem sx_27 {E : aEnv} {ah : aHp} {A : Nat → Nat} {S : Nat → aE} (h : XO E ah A) {e : aE} : hs E (oh E ah A S) (A 27) e = oh E ah A (su S 27 e) := oh_s h.1 (h.2 27 (by decide))
theorem hx_28 {E : aEnv} {ah : aHp} {A : Nat → Nat} {S : Nat → aE} (h : XO E ah A) : hg E (oh E ah A S) (A 28) = some (S 28) := oh_g h.1 (h.2 28 (by decide))
theorem sx_28 {E : aEnv} {ah : aHp} {A : Nat → Nat} {S : Nat → aE} (h : XO E ah A) {e : aE} : hs E (oh E ah A S) (A 28) e = oh E ah A (su S 28 e) := oh_s h.1 (h.2 28 (by decide))
theorem hx_29 {E : aEnv} {ah : aHp} {A : Nat → Nat} {S : Nat → aE} (h : XO E ah A) : hg E (oh E ah A S) (A 29) = some (S 29) := oh_g h.1 (h.2 29 (by decide))
theorem sx_29 {E : aEnv} {ah : aHp} {A : Nat → Nat} {S : Nat → aE} (h : XO E ah A) {e : aE} : hs E (oh E ah A S) (A 29) e = oh E ah A (su S 29 e) := oh_s h.1 (h.2 29 (by decide))
theorem hx_30 {E : aEnv} {ah : aHp} {A : Nat → Nat} {S : Nat → aE} (h : XO E ah A) : hg E (oh E ah A S) (A 30) = some (S 30) := oh_g h.1 (h.2 30 (by decide))
theorem sx_30 {E : aEnv} {ah : aHp} {A : Nat → Nat} {S : Nat → aE} (h : XO E ah A) {e : aE} : hs E (oh E ah A S) (A 30) e = oh E ah A (su S 30 e) := oh_s h.1 (h.2 30 (by decide))
theorem hx_31 {E : aEnv} {ah : aHp} {A : Nat → Nat} {S : Nat → aE} (h : XO E ah A) : hg E (oh E ah A S) (A 31) = some (S 31) := oh_g h.1 (h.2 31 (by decide))
theorem sx_31 {E : aEnv} {ah : aHp} {A : Nat → Nat} {S : Nat → aE} (h : XO E ah A) {e : aE} : hs E (oh E ah A S) (A 31) e = oh E ah A (su S 31 e) := oh_s h.1 (h.2 31 (by decide))
theorem hx_32 {E : aEnv} {ah : aHp} {A : Nat → Nat} {S : Nat → aE} (h : XO E ah A) : hg E (oh E ah A S) (A 32) = some (S 32) := oh_g h.1 (h.2 32 (by decide))
theorem sx_32 {E : aEnv} {ah : aHp} {A : Nat → Nat} {S : Nat → aE} (h : XO E ah A) {e : aE} : hs E (oh E ah A S) (A 32) e = oh E ah A (su S 32 e) := oh_s h.1 (h.2 32 (by decide))
theorem hx_33 {E : aEnv} {ah : aHp} {A : Nat → Nat} {S : Nat → aE} (h : XO E ah A) : hg E (oh E ah A S) (A 33) = some (S 33) := oh_g h.1 (h.2 33 (by decide))
theorem sx_33 {E : aEnv} {ah : aHp} {A : Nat → Nat} {S : Nat → aE} (h : XO E ah A) {e : aE} : hs E (oh E ah A S) (A 33) e = oh E ah A (su S 33 e) := oh_s h.1 (h.2 33 (by decide))
theorem hx_34 {E : aEnv} {ah : aHp} {A : Nat → Nat} {S : Nat → aE} (h : XO E ah A) : hg E (oh E ah A S) (A 34) = some (S 34) := oh_g h.1 (h.2 34 (by decide))
theorem sx_34 {E : aEnv} {ah : aHp} {A : Nat → Nat} {S : Nat → aE} (h : XO E ah A) {e : aE} : hs E (oh E ah A S) (A 34) e = oh E ah A (su S 34 e) := oh_s h.1 (h.2 34 (by decide))
theorem hx_35 {E : aEnv} {ah : aHp} {A : Nat → Nat} {S : Nat → aE} (h : XO E ah A) : hg E (oh E ah A S) (A 35) = some (S 35) := oh_g h.1 (h.2 35 (by decide))
theorem sx_35 {E : aEnv} {ah : aHp} {A : Nat → Nat} {S : Nat → aE} (h : XO E ah A) {e : aE} : hs E (oh E ah A S) (A 35) e = oh E ah A (su S 35 e) := oh_s h.1 (h.2 35 (by decide))
theorem hx_36 {E : aEnv} {ah : aHp} {A : Nat → Nat} {S : Nat → aE} (h : XO E ah A) : hg E (oh E ah A S) (A 36) = some (S 36) := oh_g h.1 (h.2 36 (by decide))
theorem sx_36 {E : aEnv} {ah : aHp} {A : Nat → Nat} {S : Nat → aE} (h : XO E ah A) {e : aE} : hs E (oh E ah A S) (A 36) e = oh E ah A (su S 36 e) := oh_s h.1 (h.2 36 (by decide))
theorem hx_37 {E : aEnv} {ah : aHp} {A : Nat → Nat} {S : Nat → aE} (h : XO E ah A) : hg E (oh E ah A S) (A 37) = some (S 37) := oh_g h.1 (h.2 37 (by decide))
theorem sx_37 {E : aEnv} {ah : aHp} {A : Nat → Nat} {S : Nat → aE} (h : XO E ah A) {e : aE} : hs E (oh E ah A S) (A 37) e = oh E ah A (su S 37 e) := oh_s h.1 (h.2 37 (by decide))
theorem hx_38 {E : aEnv} {ah : aHp} {A : Nat → Nat} {S : Nat → aE} (h : XO E ah A) : hg E (oh E ah A S) (A 38) = some (S 38) := oh_g h.1 (h.2 38 (by decide))
theorem sx_38 {E : aEnv} {ah : aHp} {A : Nat → Nat} {S : Nat → aE} (h : XO E ah A) {e : aE} : hs E (oh E ah A S) (A 38) e = oh E ah A (su S 38 e) := oh_s h.1 (h.2 38 (by decide))
theorem hx_39 {E : aEnv} {ah : aHp} {A : Nat → Nat} {S : Nat → aE} (h : XO E ah A) : hg E (oh E ah A S) (A 39) = some (S 39) := oh_g h.1 (h.2 39 (by decide))
theorem sx_39 {E : aEnv} {ah : aHp} {A : Nat → Nat} {S : Nat → aE} (h : XO E ah A) {e : aE} : hs E (oh E ah A S) (A 39) e = oh E ah A (su S 39 e) := oh_s h.1 (h.2 39 (by decide))
theorem hx_40 {E : aEnv} {ah : aHp} {A : Nat → Nat} {S : Nat → aE} (h : XO E ah A) : hg E (oh E ah A S) (A 40) = some (S 40) := oh_g h.1 (h.2 40 (by decide))
theorem sx_40 {E : aEnv} {ah : aHp} {A : Nat → Nat} {S : Nat → aE} (h : XO E ah A) {e : aE} : hs E (oh E ah A S) (A 40) e = oh E ah A (su S 40 e) := oh_s h.1 (h.2 40 (by decide))
theorem hx_41 {E : aEnv} {ah : aHp} {A : Nat → Nat} {S : Nat → aE} (h : XO E ah A) : hg E (oh E ah A S) (A 41) = some (S 41) := oh_g h.1 (h.2 41 (by decide))
theorem sx_41 {E : aEnv} {ah : aHp} {A : Nat → Nat} {S : Nat → aE} (h : XO E ah A) {e : aE} : hs E (oh E ah A S) (A 41) e = oh E ah A (su S 41 e) := oh_s h.1 (h.2 41 (by decide))
theorem hx_42 {E : aEnv} {ah : aHp} {A : Nat → Nat} {S : Nat → aE} (h : XO E ah A) : hg E (oh E ah A S) (A 42) = some (S 42) := oh_g h.1 (h.2 42 (by decide))
theorem sx_42 {E : aEnv} {ah : aHp} {A : Nat → Nat} {S : Nat → aE} (h : XO E ah A) {e : aE} : hs E (oh E ah A S) (A 42) e = oh E ah A (su S 42 e) := oh_s h.1 (h.2 42 (by decide))
theorem hx_43 {E : aEnv} {ah : aHp} {A : Nat → Nat} {S : Nat → aE} (h : XO E ah A) : hg E (oh E ah A S) (A 43) = some (S 43) := oh_g h.1 (h.2 43 (by decide))
theorem sx_43 {E : aEnv} {ah : aHp} {A : Nat → Nat} {S : Nat → aE} (h : XO E ah A) {e : aE} : hs E (oh E ah A S) (A 43) e = oh E ah A (su S 43 e) := oh_s h.1 (h.2 43 (by decide))
theorem hx_44 {E : aEnv} {ah : aHp} {A : Nat → Nat} {S : Nat → aE} (h : XO E ah A) : hg E (oh E ah A S) (A 44) = some (S 44) := oh_g h.1 (h.2 44 (by decide))
theorem sx_44 {E : aEnv} {ah : aHp} {A : Nat → Nat} {S : Nat → aE} (h : XO E ah A) {e : aE} : hs E (oh E ah A S) (A 44) e = oh E ah A (su S 44 e) := oh_s h.1 (h.2 44 (by decide))
theorem hx_45 {E : aEnv} {ah : aHp} {A : Nat → Nat} {S : Nat → aE} (h : XO E ah A) : hg E (oh E ah A S) (A 45) = some (S 45) := oh_g h.1 (h.2 45 (by decide))
theorem sx_45 {E : aEnv} {ah : aHp} {A : Nat → Nat} {S : Nat → aE} (h : XO E ah A) {e : aE} : hs E (oh E ah A S) (A 45) e = oh E ah A (su S 45 e) := oh_s h.1 (h.2 45 (by decide))
theorem hx_46 {E : aEnv} {ah : aHp} {A : Nat → Nat} {S : Nat → aE} (h : XO E ah A) : hg E (oh E ah A S) (A 46) = some (S 46) := oh_g h.1 (h.2 46 (by decide))
theorem sx_46 {E : aEnv} {ah : aHp} {A : Nat → Nat} {S : Nat → aE} (h : XO E ah A) {e : aE} : hs E (oh E ah A S) (A 46) e = oh E ah A (su S 46 e) := oh_s h.1 (h.2 46 (by decide))
theorem hx_47 {E : aEnv} {ah : aHp} {A : Nat → Nat} {S : Nat → aE} (h : XO E ah A) : hg E (oh E ah A S) (A 47) = some (S 47) := oh_g h.1 (h.2 47 (by decide))
theorem sx_47 {E : aEnv} {ah : aHp} {A : Nat → Nat} {S : Nat → aE} (h : XO E ah A) {e : aE} : hs E (oh E ah A S) (A 47) e = oh E ah A (su S 47 e) := oh_s h.1 (h.2 47 (by decide))
theorem hx_48 {E : aEnv} {ah : aHp} {A : Nat → Nat} {S : Nat → aE} (h : XO E ah A) : hg E (oh E ah A S) (A 48) = some (S 48) := oh_g h.1 (h.2 48 (by decide))
theorem sx_48 {E : aEnv} {ah : aHp} {A : Nat → Nat} {S : Nat → aE} (h : XO E ah A) {e : aE} : hs E (oh E ah A S) (A 48) e = oh E ah A (su S 48 e) := oh_s h.1 (h.2 48 (by decide))
theorem hx_49 {E : aEnv} {ah : aHp} {A : Nat → Nat} {S : Nat → aE} (h : XO E ah A) : hg E (oh E ah A S) (A 49) = some (S 49) := oh_g h.1 (h.2 49 (by decide))
theorem sx_49 {E : aEnv} {ah : aHp} {A : Nat → Nat} {S : Nat → aE} (h : XO E ah A) {e : aE} : hs E (oh E ah A S) (A 49) e = oh E ah A (su S 49 e) := oh_s h.1 (h.2 49 (by decide))
theorem hx_50 {E : aEnv} {ah : aHp} {A : Nat → Nat} {S : Nat → aE} (h : XO E ah A) : hg E (oh E ah A S) (A 50) = some (S 50) := oh_g h.1 (h.2 50 (by decide))
theorem sx_50 {E : aEnv} {ah : aHp} {A : Nat → Nat} {S : Nat → aE} (h : XO E ah A) {e : aE} : hs E (oh E ah A S) (A 50) e = oh E ah A (su S 50 e) := oh_s h.1 (h.2 50 (by decide))
theorem hx_51 {E : aEnv} {ah : aHp} {A : Nat → Nat} {S : Nat → aE} (h : XO E ah A) : hg E (oh E ah A S) (A 51) = some (S 51) := oh_g h.1 (h.2 51 (by decide))
theorem sx_51 {E : aEnv} {ah : aHp} {A : Nat → Nat} {S : Nat → aE} (h : XO E ah A) {e : aE} : hs E (oh E ah A S) (A 51) e = oh E ah A (su S 51 e) := oh_s h.1 (h.2 51 (by decide))
theorem hx_52 {E : aEnv} {ah : aHp} {A : Nat → Nat} {S : Nat → aE} (h : XO E ah A) : hg E (oh E ah A S) (A 52) = some (S 52) := oh_g h.1 (h.2 52 (by decide))
theorem sx_52 {E : aEnv} {ah : aHp} {A : Nat → Nat} {S : Nat → aE} (h : XO E ah A) {e : aE} : hs E (oh E ah A S) (A 52) e = oh E ah A (su S 52 e) := oh_s h.1 (h.2 52 (by decide))
theorem hx_53 {E : aEnv} {ah : aHp} {A : Nat → Nat} {S : Nat → aE} (h : XO E ah A) : hg E (oh E ah A S) (A 53) = some (S 53) := oh_g h.1 (h.2 53 (by decide))
theorem sx_53 {E : aEnv} {ah : aHp} {A : Nat → Nat} {S : Nat → aE} (h : XO E ah A) {e : aE} : hs E (oh E ah A S) (A 53) e = oh E ah A (su S 53 e) := oh_s h.1 (h.2 53 (by decide))
theorem hx_54 {E : aEnv} {ah : aHp} {A : Nat → Nat} {S : Nat → aE} (h : XO E ah A) : hg E (oh E ah A S) (A 54) = some (S 54) := oh_g h.1 (h.2 54 (by decide))
theorem sx_54 {E : aEnv} {ah : aHp} {A : Nat → Nat} {S : Nat → aE} (h : XO E ah A) {e : aE} : hs E (oh E ah A S) (A 54) e = oh E ah A (su S 54 e) := oh_s h.1 (h.2 54 (by decide))
theorem hx_55 {E : aEnv} {ah : aHp} {A : Nat → Nat} {S : Nat → aE} (h : XO E ah A) : hg E (oh E ah A S) (A 55) = some (S 55) := oh_g h.1 (h.2 55 (by decide))
theorem sx_55 {E : aEnv} {ah : aHp} {A : Nat → Nat} {S : Nat → aE} (h : XO E ah A) {e : aE} : hs E (oh E ah A S) (A 55) e = oh E ah A (su S 55 e) := oh_s h.1 (h.2 55 (by decide))
theorem hx_56 {E : aEnv} {ah : aHp} {A : Nat → Nat} {S : Nat → aE} (h : XO E ah A) : hg E (oh E ah A S) (A 56) = some (S 56) := oh_g h.1 (h.2 56 (by decide))
theorem sx_56 {E : aEnv} {ah : aHp} {A : Nat → Nat} {S : Nat → aE} (h : XO E ah A) {e : aE} : hs E (oh E ah A S) (A 56) e = oh E ah A (su S 56 e) := oh_s h.1 (h.2 56 (by decide))
theorem hx_57 {E : aEnv} {ah : aHp} {A : Nat → Nat} {S : Nat → aE} (h : XO E ah A) : hg E (oh E ah A S) (A 57) = some (S 57) := oh_g h.1 (h.2 57 (by decide))
theorem sx_57 {E : aEnv} {ah : aHp} {A : Nat → Nat} {S : Nat → aE} (h : XO E ah A) {e : aE} : hs E (oh E ah A S) (A 57) e = oh E ah A (su S 57 e) := oh_s h.1 (h.2 57 (by decide))
theorem hx_58 {E : aEnv} {ah : aHp} {A : Nat → Nat} {S : Nat → aE} (h : XO E ah A) : hg E (oh E ah A S) (A 58) = some (S 58) := oh_g h.1 (h.2 58 (by decide))
theorem sx_58 {E : aEnv} {ah : aHp} {A : Nat → Nat} {S : Nat → aE} (h : XO E ah A) {e : aE} : hs E (oh E ah A S) (A 58) e = oh E ah A (su S 58 e) := oh_s h.1 (h.2 58 (by decide))
theorem hx_59 {E : aEnv} {ah : aHp} {A : Nat → Nat} {S : Nat → aE} (h : XO E ah A) : hg E (oh E ah A S) (A 59) = some (S 59) := oh_g h.1 (h.2 59 (by decide))
theorem sx_59 {E : aEnv} {ah : aHp} {A : Nat → Nat} {S : Nat → aE} (h : XO E ah A) {e : aE} : hs E (oh E ah A S) (A 59) e = oh E ah A (su S 59 e) := oh_s h.1 (h.2 59 (by decide))
theorem hx_60 {E : aEnv} {ah : aHp} {A : Nat → Nat} {S : Nat → aE} (h : XO E ah A) : hg E (oh E ah A S) (A 60) = some (S 60) := oh_g h.1 (h.2 60 (by decide))
theorem sx_60 {E : aEnv} {ah : aHp} {A : Nat → Nat} {S : Nat → aE} (h : XO E ah A) {e : aE} : hs E (oh E ah A S) (A 60) e = oh E ah A (su S 60 e) := oh_s h.1 (h.2 60 (by decide))
theorem hx_61 {E : aEnv} {ah : aHp} {A : Nat → Nat} {S : Nat → aE} (h : XO E ah A) : hg E (oh E ah A S) (A 61) = some (S 61) := oh_g h.1 (h.2 61 (by decide))
theorem sx_61 {E : aEnv} {ah : aHp} {A : Nat → Nat} {S : Nat → aE} (h : XO E ah A) {e : aE} : hs E (oh E ah A S) (A 61) e = oh E ah A (su S 61 e) := oh_s h.1 (h.2 61 (by decide))
theorem hx_62 {E : aEnv} {ah : aHp} {A : Nat → Nat} {S : Nat → aE} (h : XO E ah A) : hg E (oh E ah A S) (A 62) = some (S 62) := oh_g h.1 (h.2 62 (by decide))
theorem sx_62 {E : aEnv} {ah : aHp} {A : Nat → Nat} {S : Nat → aE} (h : XO E ah A) {e : aE} : hs E (oh E ah A S) (A 62) e = oh E ah A (su S 62 e) := oh_s h.1 (h.2 62 (by decide))
theorem hx_63 {E : aEnv} {ah : aHp} {A : Nat → Nat} {S : Nat → aE} (h : XO E ah A) : hg E (oh E ah A S) (A 63) = some (S 63) := oh_g h.1 (h.2 63 (by decide))
theorem sx_63 {E : aEnv} {ah : aHp} {A : Nat → Nat} {S : Nat → aE} (h : XO E ah A) {e : aE} : hs E (oh E ah A S) (A 63) e = oh E ah A (su S 63 e) := oh_s h.1 (h.2 63 (by decide))
theorem hx_64 {E : aEnv} {ah : aHp} {A : Nat → Nat} {S : Nat → aE} (h : XO E ah A) : hg E (oh E ah A S) (A 64) = some (S 64) := oh_g h.1 (h.2 64 (by decide))
theorem sx_64 {E : aEnv} {ah : aHp} {A : Nat → Nat} {S : Nat → aE} (h : XO E ah A) {e : aE} : hs E (oh E ah A S) (A 64) e = oh E ah A (su S 64 e) := oh_s h.1 (h.2 64 (by decide))
theorem hx_65 {E : aEnv} {ah : aHp} {A : Nat → Nat} {S : Nat → aE} (h : XO E ah A) : hg E (oh E ah A S) (A 65) = some (S 65) := oh_g h.1 (h.2 65 (by decide))
theorem sx_65 {E : aEnv} {ah : aHp} {A : Nat → Nat} {S : Nat → aE} (h : XO E ah A) {e : aE} : hs E (oh E ah A S) (A 65) e = oh E ah A (su S 65 e) := oh_s h.1 (h.2 65 (by decide))
theorem hx_66 {E : aEnv} {ah : aHp} {A : Nat → Nat} {S : Nat → aE} (h : XO E ah A) : hg E (oh E ah A S) (A 66) = some (S 66) := oh_g h.1 (h.2 66 (by decide))
theorem sx_66 {E : aEnv} {ah : aHp} {A : Nat → Nat} {S : Nat → aE} (h : XO E ah A) {e : aE} : hs E (oh E ah A S) (A 66) e = oh E ah A (su S 66 e) := oh_s h.1 (h.2 66 (by decide))
theorem hx_67 {E : aEnv} {ah : aHp} {A : Nat → Nat} {S : Nat → aE} (h : XO E ah A) : hg E (oh E ah A S) (A 67) = some (S 67) := oh_g h.1 (h.2 67 (by decide))
theorem sx_67 {E : aEnv} {ah : aHp} {A : Nat → Nat} {S : Nat → aE} (h : XO E ah A) {e : aE} : hs E (oh E ah A S) (A 67) e = oh E ah A (su S 67 e) := oh_s h.1 (h.2 67 (by decide))
theorem hx_68 {E : aEnv} {ah : aHp} {A : Nat → Nat} {S : Nat → aE} (h : XO E ah A) : hg E (oh E ah A S) (A 68) = some (S 68) := oh_g h.1 (h.2 68 (by decide))
theorem sx_68 {E : aEnv} {ah : aHp} {A : Nat → Nat} {S : Nat → aE} (h : XO E ah A) {e : aE} : hs E (oh E ah A S) (A 68) e = oh E ah A (su S 68 e) := oh_s h.1 (h.2 68 (by decide))
theorem hx_69 {E : aEnv} {ah : aHp} {A : Nat → Nat} {S : Nat → aE} (h : XO E ah A) : hg E (oh E ah A S) (A 69) = some (S 69) := oh_g h.1 (h.2 69 (by decide))
theorem sx_69 {E : aEnv} {ah : aHp} {A : Nat → Nat} {S : Nat → aE} (h : XO E ah A) {e : aE} : hs E (oh E ah A S) (A 69) e = oh E ah A (su S 69 e) := oh_s h.1 (h.2 69 (by decide))
theorem hx_70 {E : aEnv} {ah : aHp} {A : Nat → Nat} {S : Nat → aE} (h : XO E ah A) : hg E (oh E ah A S) (A 70) = some (S 70) := oh_g h.1 (h.2 70 (by decide))
theorem sx_70 {E : aEnv} {ah : aHp} {A : Nat → Nat} {S : Nat → aE} (h : XO E ah A) {e : aE} : hs E (oh E ah A S) (A 70) e = oh E ah A (su S 70 e) := oh_s h.1 (h.2 70 (by decide))
theorem hx_71 {E : aEnv} {ah : aHp} {A : Nat → Nat} {S : Nat → aE} (h : XO E ah A) : hg E (oh E ah A S) (A 71) = some (S 71) := oh_g h.1 (h.2 71 (by decide))
theorem sx_71 {E : aEnv} {ah : aHp} {A : Nat → Nat} {S : Nat → aE} (h : XO E ah A) {e : aE} : hs E (oh E ah A S) (A 71) e = oh E ah A (su S 71 e) := oh_s h.1 (h.2 71 (by decide))
theorem hx_72 {E : aEnv} {ah : aHp} {A : Nat → Nat} {S : Nat → aE} (h : XO E ah A) : hg E (oh E ah A S) (A 72) = some (S 72) := oh_g h.1 (h.2 72 (by decide))
theorem sx_72 {E : aEnv} {ah : aHp} {A : Nat → Nat} {S : Nat → aE} (h : XO E ah A) {e : aE} : hs E (oh E ah A S) (A 72) e = oh E ah A (su S 72 e) := oh_s h.1 (h.2 72 (by decide))
theorem hx_73 {E : aEnv} {ah : aHp} {A : Nat → Nat} {S : Nat → aE} (h : XO E ah A) : hg E (oh E ah A S) (A 73) = some (S 73) := oh_g h.1 (h.2 73 (by decide))
theorem sx_73 {E : aEnv} {ah : aHp} {A : Nat → Nat} {S : Nat → aE} (h : XO E ah A) {e : aE} : hs E (oh E ah A S) (A 73) e = oh E ah A (su S 73 e) := oh_s h.1 (h.2 73 (by decide))
theorem hx_74 {E : aEnv} {ah : aHp} {A : Nat → Nat} {S : Nat → aE} (h : XO E ah A) : hg E (oh E ah A S) (A 74) = some (S 74) := oh_g h.1 (h.2 74 (by decide))
theorem sx_74 {E : aEnv} {ah : aHp} {A : Nat → Nat} {S : Nat → aE} (h : XO E ah A) {e : aE} : hs E (oh E ah A S) (A 74) e = oh E ah A (su S 74 e) := oh_s h.1 (h.2 74 (by decide))
theorem hx_75 {E : aEnv} {ah : aHp} {A : Nat → Nat} {S : Nat → aE} (h : XO E ah A) : hg E (oh E ah A S) (A 75) = some (S 75) := oh_g h.1 (h.2 75 (by decide))
theorem sx_75 {E : aEnv} {ah : aHp} {A : Nat → Nat} {S : Nat → aE} (h : XO E ah A) {e : aE} : hs E (oh E ah A S) (A 75) e = oh E ah A (su S 75 e) := oh_s h.1 (h.2 75 (by decide))
theorem hx_76 {E : aEnv} {ah : aHp} {A : Nat → Nat} {S : Nat → aE} (h : XO E ah A) : hg E (oh E ah A S) (A 76) = some (S 76) := oh_g h.1 (h.2 76 (by decide))
theorem sx_76 {E : aEnv} {ah : aHp} {A : Nat → Nat} {S : Nat → aE} (h : XO E ah A) {e : aE} : hs E (oh E ah A S) (A 76) e = oh E ah A (su S 76 e) := oh_s h.1 (h.2 76 (by decide))
theorem hx_77 {E : aEnv} {ah : aHp} {A : Nat → Nat} {S : Nat → aE} (h : XO E ah A) : hg E (oh E ah A S) (A 77) = some (S 77) := oh_g h.1 (h.2 77 (by decide))
theorem sx_77 {E : aEnv} {ah : aHp} {A : Nat → Nat} {S : Nat → aE} (h : XO E ah A) {e : aE} : hs E (oh E ah A S) (A 77) e = oh E ah A (su S 77 e) := oh_s h.1 (h.2 77 (by decide))
theorem hx_78 {E : aEnv} {ah : aHp} {A : Nat → Nat} {S : Nat → aE} (h : XO E ah A) : hg E (oh E ah A S) (A 78) = some (S 78) := oh_g h.1 (h.2 78 (by decide))
theorem sx_78 {E : aEnv} {ah : aHp} {A : Nat → Nat} {S : Nat → aE} (h : XO E ah A) {e : aE} : hs E (oh E ah A S) (A 78) e = oh E ah A (su S 78 e) := oh_s h.1 (h.2 78 (by decide))
theorem hx_79 {E : aEnv} {ah : aHp} {A : Nat → Nat} {S : Nat → aE} (h : XO E ah A) : hg E (oh E ah A S) (A 79) = some (S 79) := oh_g h.1 (h.2 79 (by decide))
theorem sx_79 {E : aEnv} {ah : aHp} {A : Nat → Nat} {S : Nat → aE} (h : XO E ah A) {e : aE} : hs E (oh E ah A S) (A 79) e = oh E ah A (su S 79 e) := oh_s h.1 (h.2 79 (by decide))
theorem hx_80 {E : aEnv} {ah : aHp} {A : Nat → Nat} {S : Nat → aE} (h : XO E ah A) : hg E (oh E ah A S) (A 80) = some (S 80) := oh_g h.1 (h.2 80 (by decide))
theorem sx_80 {E : aEnv} {ah : aHp} {A : Nat → Nat} {S : Nat → aE} (h : XO E ah A) {e : aE} : hs E (oh E ah A S) (A 80) e = oh E ah A (su S 80 e) := oh_s h.1 (h.2 80 (by decide))

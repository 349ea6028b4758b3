/-! Engines of the class: the cells b .. b + 10 as one state -/
noncomputable def eO (A : Nat → Nat) (b ax wh : Nat) (al : Int64) (ms tu : Int32) : aE := .inr (2, [.int (nI ax), .int (nI wh), .ref (A (b + 6)), .ref (A (b + 7)), .long al, .ref (A (b + 8)), .ref (A (b + 9)), .ref (A (b + 10)), .ref (A (b + 1)), .ref (A (b + 2)), .ref (A (b + 3)), .ref (A (b + 4)), .ref (A (b + 5)), .int ms, .int tu])
noncomputable def eC (A : Nat → Nat) (b ax wh : Nat) (al : Int64) (ms tu : Int32) (ei : Nat → Nat → Int32) (el : Nat → Nat → Int64) (q : Nat) : aE :=
  if q = 0 then eO A b ax wh al ms tu else if q = 1 then .inl (1, 7, .inr (.inl (el 1))) else if q < 6 then .inl (0, 20, .inl (ei q)) else if q = 6 then .inl (0, wh, .inl (ei 6)) else if q = 7 then .inl (1, wh, .inr (.inl (el 7))) else if q < 10 then .inl (0, ax * wh, .inl (ei q)) else .inl (3, wh, .inl (ei 10))
noncomputable def eSt (A : Nat → Nat) (S : Nat → aE) (b ax wh : Nat) (al : Int64) (ms tu : Int32) (ei : Nat → Nat → Int32) (el : Nat → Nat → Int64) : Nat → aE := fun k => if b ≤ k ∧ k < b + 11 then eC A b ax wh al ms tu ei el (k - b) else S k
noncomputable def XB (E : aEnv) (ah : aHp) (A : Nat → Nat) (b : Nat) : Prop := (∀ j k, A j = A k → j = k) ∧ ∀ q, q < 11 → ∃ e, hg E ah (A (b + q)) = some e
section ENG
variable {E : aEnv} {c b ax wh : Nat} {ah : aHp} {A : Nat → Nat} {S : Nat → aE} {al : Int64} {ms tu : Int32} {ei : Nat → Nat → Int32} {el : Nat → Nat → Int64}
theorem eSt_q {q : Nat} (hq : q < 11) : eSt A S b ax wh al ms tu ei el (b + q) = eC A b ax wh al ms tu ei el q := by
  unfold eSt
  rw [if_pos ⟨by omega, by omega⟩, Nat.add_sub_cancel_left]
theorem eSt_o {k : Nat} (hk : k < b ∨ b + 11 ≤ k) : eSt A S b ax wh al ms tu ei el k = S k := by
  unfold eSt
  rw [if_neg (by omega)]
theorem ge_q (h : XB E ah A b) {q : Nat} (hq : q < 11) : hg E (oh E ah A (eSt A S b ax wh al ms tu ei el)) (A (b + q)) = some (eC A b ax wh al ms tu ei el q) := (oh_g h.1 (h.2 q hq)).trans (by rw [eSt_q hq])
theorem ge_0 (h : XB E ah A b) : hg E (oh E ah A (eSt A S b ax wh al ms tu ei el)) (A b) = some (.inr (2, [.int (nI ax), .int (nI wh), .ref (A (b + 6)), .ref (A (b + 7)), .long al, .ref (A (b + 8)), .ref (A (b + 9)), .ref (A (b + 10)), .ref (A (b + 1)), .ref (A (b + 2)), .ref (A (b + 3)), .ref (A (b + 4)), .ref (A (b + 5)), .int ms, .int tu])) := ge_q h (q := 0) (by decide)
theorem ge_1 (h : XB E ah A b) : hg E (oh E ah A (eSt A S b ax wh al ms tu ei el)) (A (b + 1)) = some (.inl (1, 7, .inr (.inl (el 1)))) := ge_q h (by decide)
theorem ge_2 (h : XB E ah A b) : hg E (oh E ah A (eSt A S b ax wh al ms tu ei el)) (A (b + 2)) = some (.inl (0, 20, .inl (ei 2))) := ge_q h (by decide)
theorem ge_3 (h : XB E ah A b) : hg E (oh E ah A (eSt A S b ax wh al ms tu ei el)) (A (b + 3)) = some (.inl (0, 20, .inl (ei 3))) := ge_q h (by decide)
theorem ge_4 (h : XB E ah A b) : hg E (oh E ah A (eSt A S b ax wh al ms tu ei el)) (A (b + 4)) = some (.inl (0, 20, .inl (ei 4))) := ge_q h (by decide)
theorem ge_5 (h : XB E ah A b) : hg E (oh E ah A (eSt A S b ax wh al ms tu ei el)) (A (b + 5)) = some (.inl (0, 20, .inl (ei 5))) := ge_q h (by decide)
theorem ge_6 (h : XB E ah A b) : hg E (oh E ah A (eSt A S b ax wh al ms tu ei el)) (A (b + 6)) = some (.inl (0, wh, .inl (ei 6))) := ge_q h (by decide)
theorem ge_7 (h : XB E ah A b) : hg E (oh E ah A (eSt A S b ax wh al ms tu ei el)) (A (b + 7)) = some (.inl (1, wh, .inr (.inl (el 7)))) := ge_q h (by decide)
theorem ge_8 (h : XB E ah A b) : hg E (oh E ah A (eSt A S b ax wh al ms tu ei el)) (A (b + 8)) = some (.inl (0, ax * wh, .inl (ei 8))) := ge_q h (by decide)
theorem ge_9 (h : XB E ah A b) : hg E (oh E ah A (eSt A S b ax wh al ms tu ei el)) (A (b + 9)) = some (.inl (0, ax * wh, .inl (ei 9))) := ge_q h (by decide)
theorem ge_10 (h : XB E ah A b) : hg E (oh E ah A (eSt A S b ax wh al ms tu ei el)) (A (b + 10)) = some (.inl (3, wh, .inl (ei 10))) := ge_q h (by decide)
theorem se_q (h : XB E ah A b) {q : Nat} (hq : q < 11) {e : aE} {ms' tu' : Int32} {ei' : Nat → Nat → Int32} {el' : Nat → Nat → Int64} (he : ∀ j, j < 11 → eC A b ax wh al ms' tu' ei' el' j = if j = q then e else eC A b ax wh al ms tu ei el j) : hs E (oh E ah A (eSt A S b ax wh al ms tu ei el)) (A (b + q)) e = oh E ah A (eSt A S b ax wh al ms' tu' ei' el') := by
  rw [oh_s h.1 (h.2 q hq)]
  congr 1
  funext k
  unfold su eSt
  by_cases hk : b ≤ k ∧ k < b + 11
  · rw [if_pos hk, if_pos hk, he (k - b) (by omega)]
    by_cases e1 : k = b + q
    · rw [if_pos e1, if_pos (by omega)]
    · rw [if_neg e1, if_neg (by omega)]
  · rw [if_neg hk, if_neg hk, if_neg (by omega)]
theorem se_0 (h : XB E ah A b) {ms' tu' : Int32} : hs E (oh E ah A (eSt A S b ax wh al ms tu ei el)) (A b) (.inr (2, [.int (nI ax), .int (nI wh), .ref (A (b + 6)), .ref (A (b + 7)), .long al, .ref (A (b + 8)), .ref (A (b + 9)), .ref (A (b + 10)), .ref (A (b + 1)), .ref (A (b + 2)), .ref (A (b + 3)), .ref (A (b + 4)), .ref (A (b + 5)), .int ms', .int tu'])) = oh E ah A (eSt A S b ax wh al ms' tu' ei el) := by
  refine se_q h (q := 0) (by decide) (fun j hj => ?_)
  unfold eC eO
  by_cases h0 : j = 0
  · rw [if_pos h0, if_pos h0]
  · rw [if_neg h0, if_neg h0, if_neg h0]
theorem se_1 (h : XB E ah A b) {g : Nat → Int64} : hs E (oh E ah A (eSt A S b ax wh al ms tu ei el)) (A (b + 1)) (.inl (1, 7, .inr (.inl g))) = oh E ah A (eSt A S b ax wh al ms tu ei (lu el 1 g)) := by
  refine se_q h (q := 1) (by decide) (fun j hj => ?_)
  rcases (show j = 0 ∨ j = 1 ∨ j = 2 ∨ j = 3 ∨ j = 4 ∨ j = 5 ∨ j = 6 ∨ j = 7 ∨ j = 8 ∨ j = 9 ∨ j = 10 by omega) with rfl | rfl | rfl | rfl | rfl | rfl | rfl | rfl | rfl | rfl | rfl <;> simp [eC, lu]
theorem se_2 (h : XB E ah A b) {g : Nat → Int32} : hs E (oh E ah A (eSt A S b ax wh al ms tu ei el)) (A (b + 2)) (.inl (0, 20, .inl g)) = oh E ah A (eSt A S b ax wh al ms tu (iu ei 2 g) el) := by
  refine se_q h (q := 2) (by decide) (fun j hj => ?_)
  rcases (show j = 0 ∨ j = 1 ∨ j = 2 ∨ j = 3 ∨ j = 4 ∨ j = 5 ∨ j = 6 ∨ j = 7 ∨ j = 8 ∨ j = 9 ∨ j = 10 by omega) with rfl | rfl | rfl | rfl | rfl | rfl | rfl | rfl | rfl | rfl | rfl <;> simp [eC, iu]
theorem se_3 (h : XB E ah A b) {g : Nat → Int32} : hs E (oh E ah A (eSt A S b ax wh al ms tu ei el)) (A (b + 3)) (.inl (0, 20, .inl g)) = oh E ah A (eSt A S b ax wh al ms tu (iu ei 3 g) el) := by
  refine se_q h (q := 3) (by decide) (fun j hj => ?_)
  rcases (show j = 0 ∨ j = 1 ∨ j = 2 ∨ j = 3 ∨ j = 4 ∨ j = 5 ∨ j = 6 ∨ j = 7 ∨ j = 8 ∨ j = 9 ∨ j = 10 by omega) with rfl | rfl | rfl | rfl | rfl | rfl | rfl | rfl | rfl | rfl | rfl <;> simp [eC, iu]
theorem se_4 (h : XB E ah A b) {g : Nat → Int32} : hs E (oh E ah A (eSt A S b ax wh al ms tu ei el)) (A (b + 4)) (.inl (0, 20, .inl g)) = oh E ah A (eSt A S b ax wh al ms tu (iu ei 4 g) el) := by
  refine se_q h (q := 4) (by decide) (fun j hj => ?_)
  rcases (show j = 0 ∨ j = 1 ∨ j = 2 ∨ j = 3 ∨ j = 4 ∨ j = 5 ∨ j = 6 ∨ j = 7 ∨ j = 8 ∨ j = 9 ∨ j = 10 by omega) with rfl | rfl | rfl | rfl | rfl | rfl | rfl | rfl | rfl | rfl | rfl <;> simp [eC, iu]
theorem se_5 (h : XB E ah A b) {g : Nat → Int32} : hs E (oh E ah A (eSt A S b ax wh al ms tu ei el)) (A (b + 5)) (.inl (0, 20, .inl g)) = oh E ah A (eSt A S b ax wh al ms tu (iu ei 5 g) el) := by
  refine se_q h (q := 5) (by decide) (fun j hj => ?_)
  rcases (show j = 0 ∨ j = 1 ∨ j = 2 ∨ j = 3 ∨ j = 4 ∨ j = 5 ∨ j = 6 ∨ j = 7 ∨ j = 8 ∨ j = 9 ∨ j = 10 by omega) with rfl | rfl | rfl | rfl | rfl | rfl | rfl | rfl | rfl | rfl | rfl <;> simp [eC, iu]
theorem se_6 (h : XB E ah A b) {g : Nat → Int32} : hs E (oh E ah A (eSt A S b ax wh al ms tu ei el)) (A (b + 6)) (.inl (0, wh, .inl g)) = oh E ah A (eSt A S b ax wh al ms tu (iu ei 6 g) el) := by
  refine se_q h (q := 6) (by decide) (fun j hj => ?_)
  rcases (show j = 0 ∨ j = 1 ∨ j = 2 ∨ j = 3 ∨ j = 4 ∨ j = 5 ∨ j = 6 ∨ j = 7 ∨ j = 8 ∨ j = 9 ∨ j = 10 by omega) with rfl | rfl | rfl | rfl | rfl | rfl | rfl | rfl | rfl | rfl | rfl <;> simp [eC, iu]
theorem se_8 (h : XB E ah A b) {g : Nat → Int32} : hs E (oh E ah A (eSt A S b ax wh al ms tu ei el)) (A (b + 8)) (.inl (0, ax * wh, .inl g)) = oh E ah A (eSt A S b ax wh al ms tu (iu ei 8 g) el) := by
  refine se_q h (q := 8) (by decide) (fun j hj => ?_)
  rcases (show j = 0 ∨ j = 1 ∨ j = 2 ∨ j = 3 ∨ j = 4 ∨ j = 5 ∨ j = 6 ∨ j = 7 ∨ j = 8 ∨ j = 9 ∨ j = 10 by omega) with rfl | rfl | rfl | rfl | rfl | rfl | rfl | rfl | rfl | rfl | rfl <;> simp [eC, iu]
theorem se_9 (h : XB E ah A b) {g : Nat → Int32} : hs E (oh E ah A (eSt A S b ax wh al ms tu ei el)) (A (b + 9)) (.inl (0, ax * wh, .inl g)) = oh E ah A (eSt A S b ax wh al ms tu (iu ei 9 g) el) := by
  refine se_q h (q := 9) (by decide) (fun j hj => ?_)
  rcases (show j = 0 ∨ j = 1 ∨ j = 2 ∨ j = 3 ∨ j = 4 ∨ j = 5 ∨ j = 6 ∨ j = 7 ∨ j = 8 ∨ j = 9 ∨ j = 10 by omega) with rfl | rfl | rfl | rfl | rfl | rfl | rfl | rfl | rfl | rfl | rfl <;> simp [eC, iu]
theorem se_10 (h : XB E ah A b) {g : Nat → Int32} : hs E (oh E ah A (eSt A S b ax wh al ms tu ei el)) (A (b + 10)) (.inl (3, wh, .inl g)) = oh E ah A (eSt A S b ax wh al ms tu (iu ei 10 g) el) := by
  refine se_q h (q := 10) (by decide) (fun j hj => ?_)
  rcases (show j = 0 ∨ j = 1 ∨ j = 2 ∨ j = 3 ∨ j = 4 ∨ j = 5 ∨ j = 6 ∨ j = 7 ∨ j = 8 ∨ j = 9 ∨ j = 10 by omega) with rfl | rfl | rfl | rfl | rfl | rfl | rfl | rfl | rfl | rfl | rfl <;> simp [eC, iu]
theorem XB.ci (h : XB E ah A b) : oCI (hg E (oh E ah A (eSt A S b ax wh al ms tu ei el)) (A b)) = 2 := by rw [ge_0 h]; rfl
end ENG

/-! small things of the calculus -/
noncomputable def b2i (p : Prop) [Decidable p] : Int32 := if p then 1 else 0
theorem b2i_or (p : Prop) [Decidable p] : b2i p = 0 ∨ b2i p = 1 := by unfold b2i; split <;> simp
theorem b2i_eq0 {p : Prop} [Decidable p] : (b2i p = 0) = ¬ p := by
  unfold b2i
  by_cases h : p <;> simp [h]
theorem b2i_t {p : Prop} [Decidable p] (h : p) : b2i p = 1 := if_pos h
theorem b2i_f {p : Prop} [Decidable p] (h : ¬ p) : b2i p = 0 := if_neg h
theorem kil_n : kil none = none := rfl
theorem kil_i {x : Int32} : kil (some (.int x)) = some (.int x) := rfl
theorem kil_a {x : Nat} : kil (some (.ref x)) = some (.ref x) := rfl
theorem kil_u : kil (some .null) = some .null := rfl
theorem kil_l {x : Int64} : kil (some (.long x)) = none := rfl
theorem oCI_is {o : Option aE} {ci : Nat} {fs : List Value} (h : o = some (.inr (ci, fs))) : oCI o = ci := by rw [h]; rfl
/-- a put, by class, field, kind -/
theorem oPF_at (ci f tg : Nat) {n : Nat} {fs : List Value} {v : Value} (hn : n = 1000 * ci + 10 * f + tg) (hf : f < 100) (ht : tg < 10) (hv : fitv tg v = true) (hl : f < fs.length) : oPF (some (.inr (ci, fs))) n v = some (.inr (ci, fs.set f v)) := by
  rw [hn]
  exact oPF_is hf ht hv hl
theorem fit_i {x : Int32} : fitv 0 (.int x) = true := by simp [fitv]
theorem fit_l {x : Int64} : fitv 1 (.long x) = true := by simp [fitv]
theorem fit_a {x : Nat} : fitv 2 (.ref x) = true := by simp [fitv]
theorem fit_u : fitv 2 .null = true := by simp [fitv]
theorem fit_z {x : Int32} (h : x = 0 ∨ x = 1) : fitv 3 (.int x) = true := by
  rcases h with rfl | rfl <;> simp [fitv]
theorem addm1 (x : Int32) : x + (-1) = x - 1 := (Int32.sub_eq_add_neg x 1).symm

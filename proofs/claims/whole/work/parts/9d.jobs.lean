/-! Work parted among engines, in numbers -/
noncomputable def fo {α : Type} (f : α → Nat → α) : Nat → Nat → α → α
  | 0, _, a => a
  | z + 1, i, a => fo f z (i + 1) (f a i)
theorem fo_c {α : Type} {f g : α → Nat → α} : ∀ z i a, (∀ b k, i ≤ k → k < i + z → f b k = g b k) → fo f z i a = fo g z i a
  | 0, _, _, _ => rfl
  | z + 1, i, a, h => by
    rw [fo, fo, h a i (Nat.le_refl _) (by omega)]
    exact fo_c z (i + 1) _ (fun b k h1 h2 => h b k (by omega) (by omega))
theorem fo_add {α : Type} {f : α → Nat → α} : ∀ x y i a, fo f (x + y) i a = fo f y (i + x) (fo f x i a)
  | 0, y, i, a => by rw [Nat.zero_add, fo, Nat.add_zero]
  | x + 1, y, i, a => by
    rw [show x + 1 + y = x + y + 1 by omega, fo, fo_add x y (i + 1), fo, show i + 1 + x = i + (x + 1) by omega]
theorem fo_sh {α : Type} {f : α → Nat → α} {d : Nat} : ∀ z i a, fo f z (d + i) a = fo (fun b k => f b (d + k)) z i a
  | 0, _, _ => rfl
  | z + 1, i, a => by
    rw [fo, fo, show d + i + 1 = d + (i + 1) by omega, fo_sh z (i + 1)]
theorem fo_bl {α : Type} {f : α → Nat → α} {b : Nat} : ∀ x i a, fo f (x * b) (i * b) a = fo (fun c k => fo (fun c u => f c (k * b + u)) b 0 c) x i a
  | 0, i, a => by rw [Nat.zero_mul, fo, fo]
  | x + 1, i, a => by
    have e1 : (x + 1) * b = b + x * b := by rw [Nat.succ_mul, Nat.add_comm]
    have e2 : i * b + b = (i + 1) * b := (Nat.succ_mul i b).symm
    rw [e1, fo_add, e2, fo_bl x (i + 1), fo]
    congr 1
    have := fo_sh (f := f) (d := i * b) b 0 a
    rw [Nat.add_zero] at this
    exact this
section ASG
variable (en : Nat) (fit : Nat → Nat → Bool) (t : Nat → Nat)
noncomputable def asg : Nat → Nat → (Nat → Nat) → (Nat → Nat) → Nat → Nat × (Nat → Nat) → Nat × (Nat → Nat)
  | 0, _, s, _, g, cur => if g < cur.1 then (g, s) else cur
  | m + 1, j, s, L, g, cur => fo (fun cur i => if fit i j then asg m (j + 1) (fnu s j i) (fnu L i (L i + t j)) (max g (L i + t j)) cur else cur) en 0 cur
noncomputable def mo : Nat → Nat → (Nat → Nat) → (Nat → Nat) → Nat → Option Nat
  | 0, _, _, _, g => some g
  | m + 1, j, s, L, g => if fit (s j) j then mo m (j + 1) s (fnu L (s j) (L (s j) + t j)) (max g (L (s j) + t j)) else none
noncomputable def stJ (o : Option Nat) (s : Nat → Nat) (cur : Nat × (Nat → Nat)) : Nat × (Nat → Nat) := match o with
  | none => cur
  | some g => if g < cur.1 then (g, s) else cur
noncomputable def dgj (m j : Nat) (s : Nat → Nat) (v : Nat) : Nat → Nat := fun k => if j ≤ k ∧ k < j + m then v / en ^ (j + m - 1 - k) % en else s k
end ASG
section ASG2
variable {en : Nat} {fit : Nat → Nat → Bool} {t : Nat → Nat}
theorem fo_id {α : Type} {f : α → Nat → α} {a : α} (h : ∀ k, f a k = a) : ∀ z i, fo f z i a = a
  | 0, _ => rfl
  | z + 1, i => by rw [fo, h, fo_id h z (i + 1)]
theorem asg_pr : ∀ m j s L g (cur : Nat × (Nat → Nat)), cur.1 ≤ g → asg en fit t m j s L g cur = cur
  | 0, j, s, L, g, cur, h => if_neg (by omega)
  | m + 1, j, s, L, g, cur, h => by
    rw [asg]
    refine fo_id (fun k => ?_) en 0
    split
    · exact asg_pr m (j + 1) _ _ _ cur (by omega)
    · rfl
theorem dgj_s {m j i u : Nat} {s : Nat → Nat} (hi : i < en) (hu : u < en ^ m) : dgj en (m + 1) j s (i * en ^ m + u) = dgj en m (j + 1) (fnu s j i) u := by
  have pe : 0 < en := by omega
  funext k
  unfold dgj fnu
  by_cases h1 : k = j
  · subst h1
    rw [if_pos (by omega), if_neg (by omega), if_pos rfl, show k + (m + 1) - 1 - k = m by omega, Nat.add_comm, Nat.add_mul_div_right _ _ (Nat.pow_pos pe), Nat.div_eq_of_lt hu, Nat.zero_add, Nat.mod_eq_of_lt hi]
  · by_cases h2 : j + 1 ≤ k ∧ k < j + 1 + m
    · rw [if_pos (by omega), if_pos h2, show j + (m + 1) - 1 - k = j + m - k by omega, show j + 1 + m - 1 - k = j + m - k by omega]
      obtain ⟨d, hd⟩ : ∃ d, m = (j + m - k) + (d + 1) := ⟨m - (j + m - k) - 1, by omega⟩
      generalize j + m - k = e at hd ⊢
      have e1 : i * en ^ m + u = u + en ^ e * (i * en ^ (d + 1)) := by
        rw [hd, Nat.pow_add, Nat.mul_left_comm, Nat.add_comm]
      rw [e1, Nat.add_mul_div_left _ _ (Nat.pow_pos pe), Nat.pow_succ, ← Nat.mul_assoc, Nat.add_mul_mod_self_right]
    · rw [if_neg (by omega), if_neg h2, if_neg h1]
theorem mo_c : ∀ m j s s' L g, (∀ k, j ≤ k → k < j + m → s k = s' k) → mo fit t m j s L g = mo fit t m j s' L g
  | 0, _, _, _, _, _, _ => rfl
  | m + 1, j, s, s', L, g, h => by
    rw [mo, mo, h j (Nat.le_refl _) (by omega)]
    split
    · exact mo_c m (j + 1) s s' _ _ (fun k h1 h2 => h k (by omega) (by omega))
    · rfl
theorem dgj_j {m j v : Nat} {s : Nat → Nat} {k : Nat} (hk : k < j) : dgj en m j s v k = s k := if_neg (by omega)
/-- all ways in their order, or engine for engine -/
theorem all_asg : ∀ m j s L g cur, fo (fun cur v => stJ (mo fit t m j (dgj en m j s v) L g) (dgj en m j s v) cur) (en ^ m) 0 cur = asg en fit t m j s L g cur
  | 0, j, s, L, g, cur => by
    have e1 : dgj en 0 j s 0 = s := by
      funext k
      exact if_neg (by omega)
    rw [Nat.pow_zero, fo, fo, asg, mo, e1]
    rfl
  | m + 1, j, s, L, g, cur => by
    have e1 : en ^ (m + 1) = en * en ^ m := by rw [Nat.pow_succ, Nat.mul_comm]
    have e2 := fo_bl (f := fun cur v => stJ (mo fit t (m + 1) j (dgj en (m + 1) j s v) L g) (dgj en (m + 1) j s v) cur) (b := en ^ m) en 0 cur
    rw [Nat.zero_mul] at e2
    rw [e1, e2, asg]
    refine fo_c en 0 cur (fun c i h1 h2 => ?_)
    by_cases hf : fit i j = true
    · rw [if_pos hf, ← all_asg m (j + 1) (fnu s j i) (fnu L i (L i + t j)) (max g (L i + t j)) c]
      refine fo_c _ 0 c (fun c u h3 h4 => ?_)
      have sj : dgj en m (j + 1) (fnu s j i) u j = i := by
        rw [dgj_j (by omega)]
        exact if_pos rfl
      rw [dgj_s (by omega) (by omega), mo, sj, if_pos hf]
    · rw [if_neg hf]
      have e3 := fo_c (f := fun c u => stJ (mo fit t (m + 1) j (dgj en (m + 1) j s (i * en ^ m + u)) L g) (dgj en (m + 1) j s (i * en ^ m + u)) c) (g := fun c _ => c) (en ^ m) 0 c (fun c u h3 h4 => by
        have sj : dgj en m (j + 1) (fnu s j i) u j = i := by
          rw [dgj_j (by omega)]
          exact if_pos rfl
        rw [dgj_s (by omega) (by omega), mo, sj, if_neg hf]
        rfl)
      rw [e3]
      exact fo_id (fun k => rfl) _ _
end ASG2

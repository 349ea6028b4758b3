/-! the plates' numbers: g i copies before printing i, hc i casts ahead of it -/
noncomputable def PIv (f : Nat → Nat → Int32) (n q : Nat) (g hc : Nat → Nat) : Prop := g 0 = 0 ∧ ∀ i, i < q → f 2 i = nI (g (i + 1)) ∧ g i < g (i + 1) ∧ g (i + 1) ≤ 1000 * (i + 1) ∧ f 3 i = nI (hc i) ∧ hc i ≤ n
/-- the printing of a copy -/
noncomputable def pIdx (g : Nat → Nat) (x : Int) : Nat → Nat
  | 0 => 0
  | q + 1 => if (g q : Int) < x then q else pIdx g x q
section PMATH
variable {f : Nat → Nat → Int32} {n q : Nat} {g hc : Nat → Nat}
theorem PIv.mono (h : PIv f n q g hc) : ∀ i j, i ≤ j → j ≤ q → g i ≤ g j := by
  intro i j hij hj
  induction hij with
  | refl => exact Nat.le_refl _
  | @step k _ ih =>
    have h1 := (h.2 k (by omega)).2.1
    have h2 := ih (by omega)
    show g i ≤ g (k + 1)
    omega
theorem PIv.le (h : PIv f n q g hc) {i : Nat} (hi : i ≤ q) : g i ≤ 1000 * i := by
  cases i with
  | zero => rw [h.1]; omega
  | succ i => exact (h.2 i (by omega)).2.2.1
theorem PIv.cp (h : PIv f n q g hc) {i : Nat} (hi : i ≤ q) : cpz (f 2) i = nI (g i) := by
  unfold cpz
  cases i with
  | zero => simp [h.1, nI_0]
  | succ i => simp [(h.2 i (by omega)).1]
theorem pIdx_at (h : PIv f n q g hc) {x : Int} {i : Nat} : ∀ k, i < k → k ≤ q → (g i : Int) < x → x ≤ g (i + 1) → pIdx g x k = i
  | 0, hk, _, _, _ => by omega
  | k + 1, hk, hq, h1, h2 => by
    unfold pIdx
    by_cases he : i = k
    · subst he
      rw [if_pos h1]
    · have h3 := h.mono (i + 1) k (by omega) (by omega)
      rw [if_neg (by omega)]
      exact pIdx_at h k (by omega) (by omega) h1 h2
theorem pof_neg (g2 : Nat → Int32) {x : Int32} (hx : x < 1) : ∀ m i, pof g2 x i m = -1
  | 0, _ => rfl
  | m + 1, i => by
    unfold pof
    rw [if_neg (fun z => z.1 hx)]
    exact pof_neg g2 hx m (i + 1)
theorem pof_is (h : PIv f n q g hc) (hq : q ≤ 20) {x : Int32} (hx : ¬ x < 1) : ∀ m i, i + m = q → (g i : Int) < x.toInt → pof (f 2) x i m = if x.toInt ≤ g q then nI (pIdx g x.toInt q) else -1
  | 0, i, hm, h1 => by
    rw [show i = q by omega] at h1
    rw [if_neg (by omega)]
    rfl
  | m + 1, i, hm, h1 => by
    obtain ⟨e1, e2, e3, -⟩ := h.2 i (by omega)
    unfold pof
    have e4 : (nI (g (i + 1))).toInt = g (i + 1) := nI_toInt (by omega)
    by_cases h2 : x ≤ f 2 i
    · rw [if_pos ⟨hx, h2⟩]
      rw [i32_le, e1, e4] at h2
      have h3 := h.mono (i + 1) q (by omega) (Nat.le_refl _)
      rw [if_pos (by omega), pIdx_at h q (by omega) (Nat.le_refl _) h1 h2]
    · rw [if_neg (fun z => h2 z.2)]
      rw [i32_le, e1, e4] at h2
      exact pof_is h hq hx m (i + 1) (by omega) (by omega)
/-- the class' printing of a copy, in whole numbers -/
theorem pof_all (h : PIv f n q g hc) (hq : q ≤ 20) {x : Int32} : pof (f 2) x 0 q = if 1 ≤ x.toInt ∧ x.toInt ≤ g q then nI (pIdx g x.toInt q) else -1 := by
  by_cases hx : x < 1
  · have h1 := hx
    simp only [i32_lt, i32_le, i64_lt, i64_le, i2l_toInt, Int32.reduceToInt, Int64.reduceToInt] at h1
    rw [pof_neg _ hx, if_neg (by omega)]
  · have h1 := hx
    simp only [i32_lt, i32_le, i64_lt, i64_le, i2l_toInt, Int32.reduceToInt, Int64.reduceToInt] at h1
    rw [pof_is h hq hx q 0 (by omega) (by rw [h.1]; omega)]
    by_cases h2 : x.toInt ≤ g q
    · rw [if_pos h2, if_pos ⟨by omega, h2⟩]
    · rw [if_neg h2, if_neg (fun z => h2 z.2)]
theorem pIdx_lt (h : PIv f n q g hc) {x : Int} (h1 : 1 ≤ x) (h2 : x ≤ g q) : pIdx g x q < q := by
  have h0 := h.1
  cases q with
  | zero => omega
  | succ q =>
    have : ∀ k, pIdx g x (k + 1) < k + 1 := by
      intro k
      induction k with
      | zero => unfold pIdx; split <;> simp [pIdx]
      | succ k ih => unfold pIdx; split <;> omega
    exact this q
end PMATH

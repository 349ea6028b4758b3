/-! The fewest turns, in numbers -/
noncomputable def cst : Nat → Nat → Nat
  | 0, N => if N = 0 then 0 else 1000
  | n + 1, N => min (N % 10 + cst n (N / 10)) (if N % 10 = 0 then 1000 else 10 - N % 10 + cst n (N / 10 + 1))
noncomputable def gT (N : Nat) : Nat := cst 13 N
theorem cst_st : ∀ n N, N ≤ 10 ^ n → cst (n + 2) N = cst (n + 1) N
  | 0, N, h => by
    rw [Nat.pow_zero] at h
    rcases (show N = 0 ∨ N = 1 by omega) with rfl | rfl <;> decide +kernel
  | n + 1, N, h => by
    have p : 10 ^ (n + 1) = 10 ^ n * 10 := Nat.pow_succ ..
    rw [cst, cst_st n (N / 10) (by omega)]
    by_cases z : N % 10 = 0
    · rw [if_pos z]
      conv => rhs; rw [cst, if_pos z]
    · rw [if_neg z, cst_st n (N / 10 + 1) (by omega)]
      conv => rhs; rw [cst, if_neg z]
theorem cst_g {n N : Nat} (h : N ≤ 10 ^ n) : ∀ k, cst (n + 1 + k) N = cst (n + 1) N
  | 0 => rfl
  | k + 1 => by
    have : N ≤ 10 ^ (n + k) := Nat.le_trans h (Nat.pow_le_pow_right (by decide) (by omega))
    rw [show n + 1 + (k + 1) = n + k + 2 by omega, cst_st (n + k) N this, show n + k + 1 = n + 1 + k by omega, cst_g h k]
theorem gT_is {n N : Nat} (h : N ≤ 10 ^ n) (hn : n ≤ 12) : cst (n + 1) N = gT N := by
  have := cst_g h (12 - n)
  rw [show n + 1 + (12 - n) = 13 by omega] at this
  exact this.symm
theorem gT_rec {N : Nat} (h : N ≤ 10 ^ 12) : gT N = min (N % 10 + gT (N / 10)) (if N % 10 = 0 then 1000 else 10 - N % 10 + gT (N / 10 + 1)) := by
  have e : (10 : Nat) ^ 12 = 10 ^ 11 * 10 := by decide
  conv => lhs; unfold gT; rw [cst]
  rw [gT_is (n := 11) (N := N / 10) (by omega) (by decide)]
  by_cases z : N % 10 = 0
  · rw [if_pos z, if_pos z]
  · rw [if_neg z, if_neg z, gT_is (n := 11) (N := N / 10 + 1) (by omega) (by decide)]
theorem cst_le : ∀ n N, N < 10 ^ n → cst n N ≤ 9 * n
  | 0, N, h => by
    rw [Nat.pow_zero] at h
    rw [cst, if_pos (by omega)]
    omega
  | n + 1, N, h => by
    have p : 10 ^ (n + 1) = 10 ^ n * 10 := Nat.pow_succ ..
    have := cst_le n (N / 10) (by omega)
    rw [cst]
    omega
theorem gT_le {N : Nat} (h : N ≤ 10 ^ 12) : gT N ≤ 117 := cst_le 13 N (by
  have e : (10 : Nat) ^ 13 = 10 ^ 12 * 10 := by decide
  omega)
theorem gT_0 : gT 0 = 0 := by decide +kernel
theorem gT_1 : gT 1 = 1 := by decide +kernel
/-- the lowest figure, and what is left -/
noncomputable def lowN (N : Nat) : Bool := decide (¬ N % 10 = 0 ∧ 10 - N % 10 + gT (N / 10 + 1) < N % 10 + gT (N / 10))
noncomputable def nxN (N : Nat) : Nat := if lowN N then N / 10 + 1 else N / 10
noncomputable def itN : Nat → Nat → Nat
  | 0, N => N
  | k + 1, N => nxN (itN k N)
noncomputable def figN (N : Nat) : Int := if lowN N then (N % 10 : Nat) - 10 else (N % 10 : Nat)
theorem nxN_le {n N : Nat} (h : N ≤ 10 ^ (n + 1)) : nxN N ≤ 10 ^ n := by
  have p : 10 ^ (n + 1) = 10 ^ n * 10 := Nat.pow_succ ..
  unfold nxN
  split
  · next z =>
    have := (of_decide_eq_true z).1
    omega
  · omega

/-! The model's cards: words as numbers -/
noncomputable def wcF : List Nat → Nat → Nat
  | [], a => a
  | x :: l, a => wcF l (a * 32 + (x - 96))
noncomputable def sgL (T : Nat → Int32) : Nat → Nat → List Nat
  | 0, _ => []
  | z + 1, p => bt T p :: sgL T z (p + 1)
noncomputable def lett (l : List Nat) : Prop := ∀ x, x ∈ l → 97 ≤ x ∧ x ≤ 122
theorem wcF_lo : ∀ (l : List Nat) a, a * 32 ^ l.length ≤ wcF l a
  | [], a => by simp [wcF]
  | x :: l, a => by
    have := wcF_lo l (a * 32 + (x - 96))
    rw [wcF, List.length_cons, Nat.pow_succ]
    refine Nat.le_trans ?_ this
    rw [Nat.add_mul, Nat.mul_assoc, Nat.mul_comm (32 ^ l.length) 32]
    exact Nat.le_add_right _ _
theorem wcF_hi : ∀ (l : List Nat) a, lett l → wcF l a < (a + 1) * 32 ^ l.length
  | [], a, _ => by simp [wcF]
  | x :: l, a, h => by
    have hx := h x (List.mem_cons_self ..)
    have := wcF_hi l (a * 32 + (x - 96)) (fun y hy => h y (List.mem_cons_of_mem _ hy))
    rw [wcF, List.length_cons, Nat.pow_succ]
    refine Nat.lt_of_lt_of_le this ?_
    rw [Nat.mul_comm (32 ^ l.length) 32, ← Nat.mul_assoc]
    exact Nat.mul_le_mul_right _ (by omega)
theorem wcF_inj : ∀ (l l' : List Nat) a a', l.length = l'.length → lett l → lett l' → wcF l a = wcF l' a' → a = a' ∧ l = l'
  | [], [], a, a', _, _, _, e => ⟨e, rfl⟩
  | x :: l, y :: l', a, a', hl, h, h', e => by
    have hx := h x (List.mem_cons_self ..)
    have hy := h' y (List.mem_cons_self ..)
    obtain ⟨e1, e2⟩ := wcF_inj l l' _ _ (by simpa using hl) (fun z hz => h z (List.mem_cons_of_mem _ hz)) (fun z hz => h' z (List.mem_cons_of_mem _ hz)) e
    refine ⟨by omega, ?_⟩
    rw [e2, show x = y by omega]
  | [], _ :: _, _, _, hl, _, _, _ => absurd hl (by simp)
  | _ :: _, [], _, _, hl, _, _, _ => absurd hl (by simp)
theorem wcF_len {l l' : List Nat} (h : lett l) (h' : lett l') (hn : l ≠ []) (hn' : l' ≠ []) (e : wcF l 0 = wcF l' 0) : l.length = l'.length := by
  have key : ∀ {l l' : List Nat}, lett l → lett l' → l' ≠ [] → wcF l 0 = wcF l' 0 → l'.length ≤ l.length := by
    intro l l' h h' hn' e
    have u := wcF_hi l 0 h
    rw [Nat.zero_add, Nat.one_mul] at u
    match l', h', hn' with
    | y :: l', h', _ =>
      have hy := h' y (List.mem_cons_self ..)
      have d := wcF_lo l' (0 * 32 + (y - 96))
      have d2 : 1 * 32 ^ l'.length ≤ (0 * 32 + (y - 96)) * 32 ^ l'.length := Nat.mul_le_mul_right _ (by omega)
      rw [wcF] at e
      rw [List.length_cons]
      by_cases z : l'.length < l.length
      · omega
      · have := Nat.pow_le_pow_right (n := 32) (by decide) (show l.length ≤ l'.length by omega)
        omega
  have a := key h h' hn' e
  have b := key h' h hn e.symm
  omega
theorem wcF_eq {l l' : List Nat} (h : lett l) (h' : lett l') (hn : l ≠ []) (hn' : l' ≠ []) : (wcF l 0 = wcF l' 0) = (l = l') := by
  apply propext
  constructor
  · intro e
    exact (wcF_inj l l' 0 0 (wcF_len h h' hn hn' e) h h' e).2
  · rintro rfl
    rfl
section WQ
variable {T : Nat → Int32}
theorem sgL_len : ∀ z p, (sgL T z p).length = z
  | 0, _ => rfl
  | z + 1, p => by rw [sgL, List.length_cons, sgL_len z (p + 1)]
theorem wq_sg : ∀ (w : List Nat) s, (wq T w s = true) = (sgL T w.length s = w)
  | [], s => by simp [wq, sgL]
  | x :: w, s => by
    have ih := wq_sg w (s + 1)
    simp only [wq, List.length_cons, sgL, Bool.and_eq_true, decide_eq_true_eq, List.cons.injEq, ih]
theorem wd_sg {s e : Nat} {w : List Nat} : (wdB T s e w = true) = (sgL T (e - s) s = w) := by
  unfold wdB
  rw [Bool.and_eq_true, wq_sg, decide_eq_true_eq]
  apply propext
  constructor
  · rintro ⟨h1, h2⟩
    rw [h1]
    exact h2
  · intro h
    have h1 := congrArg List.length h
    rw [sgL_len] at h1
    exact ⟨h1, by rw [← h1]; exact h⟩
theorem sgL_lett : ∀ z p, (∀ j, p ≤ j → j < p + z → clB (bt T j) = 1) → lett (sgL T z p)
  | 0, p, _ => fun x hx => by simp [sgL] at hx
  | z + 1, p, h => fun x hx => by
    rw [sgL, List.mem_cons] at hx
    rcases hx with hx | hx
    · have h0 := h p (by omega) (by omega)
      rw [hx]
      unfold clB at h0
      split at h0
      · assumption
      · split at h0
        · omega
        · split at h0
          · omega
          · split at h0 <;> omega
    · exact sgL_lett z (p + 1) (fun j h1 h2 => h j (by omega) (by omega)) x hx
end WQ
theorem wS_lett (k : Nat) : lett (wS k) ∧ wS k ≠ [] := by
  unfold wS lett
  split <;> exact ⟨by decide, by decide⟩
/-- the number that the model makes of a word -/
noncomputable def wdV (T : Nat → Int32) (n p : Nat) : Int64 := if nxE T n p - nxS T n p ≤ 12 then lN (wcF (sgL T (nxE T n p - nxS T n p) (nxS T n p)) 0) else -1
theorem nx_word {T : Nat → Int32} {n p : Nat} (h : nxT T n p = 1) : nxC T n p = 1 ∧ nxE T n p = exF T 1 (n - (nxS T n p + 1)) (nxS T n p + 1) ∧ nxS T n p < nxE T n p ∧ ∀ j, nxS T n p ≤ j → j < nxS T n p + (nxE T n p - nxS T n p) → clB (bt T j) = 1 := by
  have hC : nxC T n p = 1 := by
    unfold nxT at h
    split at h
    · omega
    · exact h
  have hE : nxE T n p = exF T 1 (n - (nxS T n p + 1)) (nxS T n p + 1) := by
    unfold nxE
    rw [if_neg (by omega), if_pos (Or.inl hC), hC]
  have hl := exF_le (T := T) (k := 1) (n - (nxS T n p + 1)) (nxS T n p + 1)
  refine ⟨hC, hE, by omega, fun j h1 h2 => ?_⟩
  by_cases y : j = nxS T n p
  · rw [y]
    unfold nxC cl at hC
    split at hC
    · exact hC
    · omega
  · exact exF_in (n - (nxS T n p + 1)) (nxS T n p + 1) j (by omega) (by rw [← hE]; omega)
theorem wdV_eq {T : Nat → Int32} {n p k : Nat} (h : nxT T n p = 1) : (wdV T n p = lN (wcF (wS k) 0)) = (wdP T n p k = true) := by
  obtain ⟨hC, hE, hlt, hs⟩ := nx_word h
  have w1 := wS_b k
  have w2 := wS_lett k
  have L := sgL_lett _ _ hs
  have b2 := wcF_hi (wS k) 0 w2.1
  have p2 : (32 : Nat) ^ (wS k).length ≤ 32 ^ 5 := Nat.pow_le_pow_right (by decide) w1.1
  have ne : sgL T (nxE T n p - nxS T n p) (nxS T n p) ≠ [] := fun z => by
    have := congrArg List.length z
    rw [sgL_len, List.length_nil] at this
    omega
  unfold wdP
  rw [show decide (nxT T n p = 1) = true from decide_eq_true h, Bool.true_and, wd_sg, ← wcF_eq L w2.1 ne w2.2]
  unfold wdV
  split
  · next hl =>
    have b1 := wcF_hi _ 0 L
    rw [sgL_len] at b1
    have p1 : (32 : Nat) ^ (nxE T n p - nxS T n p) ≤ 32 ^ 12 := Nat.pow_le_pow_right (by decide) hl
    have e12 : (32 : Nat) ^ 12 = 1152921504606846976 := by decide
    have e5 : (32 : Nat) ^ 5 = 33554432 := by decide
    apply propext
    constructor
    · intro z
      have := congrArg Int64.toInt z
      rw [lN_toInt63 (by omega), lN_toInt63 (by omega)] at this
      omega
    · intro z
      rw [z]
  · next hl =>
    apply propext
    constructor
    · intro z
      exfalso
      have e5 : (32 : Nat) ^ 5 = 33554432 := by decide
      have := congrArg Int64.toInt z
      rw [lN_toInt63 (by omega)] at this
      have e : (-1 : Int64).toInt = -1 := rfl
      omega
    · intro z
      exfalso
      have := wcF_len L w2.1 ne w2.2 z
      rw [sgL_len] at this
      omega

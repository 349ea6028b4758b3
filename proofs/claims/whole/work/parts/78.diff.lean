/-! Differences, as both sides make them -/
noncomputable def az1 (k : Nat) : Nat → (Nat → Int64) → Nat → Int64
  | 0, D => D
  | z + 1, D => az1 k z (vp_updL D (k + z) (D (k + z) - D (k + z - 1)))
noncomputable def azO (n : Nat) : Nat → Nat → (Nat → Int64) → Nat → Int64
  | 0, _, D => D
  | y + 1, k, D => azO n y (k + 1) (az1 k (n - k) D)
noncomputable def ah1 (s : Nat) : Nat → (Nat → Int64) → Nat → Int64
  | 0, D => D
  | z + 1, D => ah1 s z (vp_updL D (s + z) (D (s + z) - D (s + z + 1)))
noncomputable def toA (n : Nat) (D : Nat → Int64) : Nat → Int64 := ah1 6 (n - 1 - 6) (ah1 4 (n - 1 - 4) (ah1 2 (n - 1 - 2) D))
noncomputable def bkD (n : Nat) (D : Nat → Int64) : Nat → Int64 := toA n (azO n (n - 1) 1 D)
noncomputable def eqN (n : Nat) (D D' : Nat → Int64) : Prop := ∀ i, i < n → D i = D' i
theorem vup_at {D : Nat → Int64} {k : Nat} {x : Int64} : vp_updL D k x k = x := if_pos rfl
theorem vup_ne {D : Nat → Int64} {k i : Nat} {x : Int64} (h : ¬ i = k) : vp_updL D k x i = D i := if_neg h
theorem eqN_up {n k : Nat} {D D' : Nat → Int64} {x x' : Int64} (h : eqN n D D') (hx : x = x') : eqN n (vp_updL D k x) (vp_updL D' k x') := by
  intro i hi
  by_cases z : i = k
  · rw [z, vup_at, vup_at, hx]
  · rw [vup_ne z, vup_ne z, h i hi]
theorem az1_eq {n k : Nat} (hk : 1 ≤ k) : ∀ z D D', k + z ≤ n → eqN n D D' → eqN n (az1 k z D) (az1 k z D')
  | 0, _, _, _, h => h
  | z + 1, D, D', hz, h => by
    refine az1_eq hk z _ _ (by omega) (eqN_up h ?_)
    rw [h (k + z) (by omega), h (k + z - 1) (by omega)]
theorem azO_eq {n : Nat} : ∀ y k D D', 1 ≤ k → k + y = n → eqN n D D' → eqN n (azO n y k D) (azO n y k D')
  | 0, _, _, _, _, _, h => h
  | y + 1, k, D, D', hk, hy, h => azO_eq y (k + 1) _ _ (by omega) (by omega) (az1_eq hk (n - k) D D' (by omega) h)
theorem ah1_eq {n s : Nat} : ∀ z D D', s + z < n ∨ z = 0 → eqN n D D' → eqN n (ah1 s z D) (ah1 s z D')
  | 0, _, _, _, h => h
  | z + 1, D, D', hz, h => by
    refine ah1_eq z _ _ (by omega) (eqN_up h ?_)
    rw [h (s + z) (by omega), h (s + z + 1) (by omega)]
theorem toA_eq {n : Nat} {D D' : Nat → Int64} (h : eqN n D D') : eqN n (toA n D) (toA n D') := by
  unfold toA
  exact ah1_eq _ _ _ (by omega) (ah1_eq _ _ _ (by omega) (ah1_eq _ _ _ (by omega) h))
theorem bkD_eq {n : Nat} (hn : 1 ≤ n) {D D' : Nat → Int64} (h : eqN n D D') : eqN n (bkD n D) (bkD n D') := toA_eq (azO_eq _ _ _ _ (by omega) (by omega) h)
/-- what lies behind stays -/
noncomputable def outN (n : Nat) (D D' : Nat → Int64) : Prop := ∀ i, n ≤ i → D' i = D i
theorem az1_out {n k : Nat} : ∀ z D, k + z ≤ n → outN n D (az1 k z D)
  | 0, _, _ => fun _ _ => rfl
  | z + 1, D, hz => fun i hi => by
    rw [az1, az1_out z _ (by omega) i hi, vup_ne (by omega)]
theorem azO_out {n : Nat} : ∀ y k D, k + y = n → outN n D (azO n y k D)
  | 0, _, _, _ => fun _ _ => rfl
  | y + 1, k, D, hy => fun i hi => by
    rw [azO, azO_out y (k + 1) _ (by omega) i hi, az1_out (n - k) D (by omega) i hi]
theorem ah1_out {n s : Nat} : ∀ z D, s + z < n ∨ z = 0 → outN n D (ah1 s z D)
  | 0, _, _ => fun _ _ => rfl
  | z + 1, D, hz => fun i hi => by
    rw [ah1, ah1_out z _ (by omega) i hi, vup_ne (by omega)]
theorem toA_out {n : Nat} {D : Nat → Int64} : outN n D (toA n D) := fun i hi => by
  unfold toA
  rw [ah1_out (n := n) _ _ (by omega) i hi, ah1_out (n := n) _ _ (by omega) i hi, ah1_out (n := n) _ _ (by omega) i hi]
theorem bkD_out {n : Nat} (hn : 1 ≤ n) {D : Nat → Int64} : outN n D (bkD n D) := fun i hi => by
  unfold bkD
  rw [toA_out i hi, azO_out (n - 1) 1 D (by omega) i hi]
/-- bounds -/
noncomputable def bdN (n : Nat) (B : Int) (D : Nat → Int64) : Prop := ∀ i, i < n → -B ≤ (D i).toInt ∧ (D i).toInt ≤ B
theorem bdN_up {n k a b : Nat} {B : Int} {D : Nat → Int64} (h : bdN n B D) (hB : B ≤ 2 ^ 61) (ha : a < n) (hb : b < n) : bdN n (2 * B) (vp_updL D k (D a - D b)) := by
  intro i hi
  have h1 := h a ha
  have h2 := h b hb
  by_cases z : i = k
  · rw [z, vup_at, Int64.toInt_sub, bm64 (by omega) (by omega)]
    omega
  · rw [vup_ne z]
    have := h i hi
    omega
theorem az1_bd {n k : Nat} (hk : 1 ≤ k) : ∀ z B D, k + z ≤ n → B * 2 ^ z ≤ 2 ^ 61 → 0 ≤ B → bdN n B D → bdN n (B * 2 ^ z) (az1 k z D)
  | 0, B, D, _, _, _, h => by rw [Int.pow_zero, Int.mul_one]; exact h
  | z + 1, B, D, hz, hB, hB0, h => by
    have e : B * 2 ^ (z + 1) = 2 * B * 2 ^ z := by rw [Int.pow_succ, ← Int.mul_assoc, Int.mul_comm 2 B, Int.mul_assoc, Int.mul_comm (2 ^ z) 2, ← Int.mul_assoc]
    have p : (1 : Int) ≤ 2 ^ z := by
      have : (0 : Int) < 2 ^ z := Int.pow_pos (by decide)
      omega
    have q : 2 * B * 1 ≤ 2 * B * 2 ^ z := Int.mul_le_mul_of_nonneg_left p (by omega)
    rw [e] at hB ⊢
    exact az1_bd hk z (2 * B) _ (by omega) hB (by omega) (bdN_up h (by omega) (by omega) (by omega))
theorem ah1_bd {n s : Nat} : ∀ z B D, s + z < n ∨ z = 0 → B * 2 ^ z ≤ 2 ^ 61 → 0 ≤ B → bdN n B D → bdN n (B * 2 ^ z) (ah1 s z D)
  | 0, B, D, _, _, _, h => by rw [Int.pow_zero, Int.mul_one]; exact h
  | z + 1, B, D, hz, hB, hB0, h => by
    have e : B * 2 ^ (z + 1) = 2 * B * 2 ^ z := by rw [Int.pow_succ, ← Int.mul_assoc, Int.mul_comm 2 B, Int.mul_assoc, Int.mul_comm (2 ^ z) 2, ← Int.mul_assoc]
    have p : (1 : Int) ≤ 2 ^ z := by
      have : (0 : Int) < 2 ^ z := Int.pow_pos (by decide)
      omega
    have q : 2 * B * 1 ≤ 2 * B * 2 ^ z := Int.mul_le_mul_of_nonneg_left p (by omega)
    rw [e] at hB ⊢
    exact ah1_bd z (2 * B) _ (by omega) hB (by omega) (bdN_up h (by omega) (by omega) (by omega))
theorem bdN_le {n : Nat} {B B' : Int} {D : Nat → Int64} (h : bdN n B D) (hb : B ≤ B') : bdN n B' D := fun i hi => by
  have := h i hi
  omega
theorem bkD_bd {n : Nat} (hn : 1 ≤ n) (h7 : n ≤ 7) {D : Nat → Int64} (h : bdN n 1000000000 D) : bdN n (2 ^ 61) (bkD n D) := by
  unfold bkD toA
  rcases (show n = 1 ∨ n = 2 ∨ n = 3 ∨ n = 4 ∨ n = 5 ∨ n = 6 ∨ n = 7 by omega) with rfl | rfl | rfl | rfl | rfl | rfl | rfl
  all_goals simp only [azO, Nat.reduceSub, Nat.reduceAdd]
  · exact bdN_le (ah1_bd _ _ _ (by decide) (by decide) (by decide) (ah1_bd _ _ _ (by decide) (by decide) (by decide) (ah1_bd _ _ _ (by decide) (by decide) (by decide) h))) (by decide)
  · exact bdN_le (ah1_bd _ _ _ (by decide) (by decide) (by decide) (ah1_bd _ _ _ (by decide) (by decide) (by decide) (ah1_bd _ _ _ (by decide) (by decide) (by decide) (az1_bd (by decide) _ _ _ (by decide) (by decide) (by decide) h)))) (by decide)
  · exact bdN_le (ah1_bd _ _ _ (by decide) (by decide) (by decide) (ah1_bd _ _ _ (by decide) (by decide) (by decide) (ah1_bd _ _ _ (by decide) (by decide) (by decide) (az1_bd (by decide) _ _ _ (by decide) (by decide) (by decide) (az1_bd (by decide) _ _ _ (by decide) (by decide) (by decide) h))))) (by decide)
  · exact bdN_le (ah1_bd _ _ _ (by decide) (by decide) (by decide) (ah1_bd _ _ _ (by decide) (by decide) (by decide) (ah1_bd _ _ _ (by decide) (by decide) (by decide) (az1_bd (by decide) _ _ _ (by decide) (by decide) (by decide) (az1_bd (by decide) _ _ _ (by decide) (by decide) (by decide) (az1_bd (by decide) _ _ _ (by decide) (by decide) (by decide) h)))))) (by decide)
  · exact bdN_le (ah1_bd _ _ _ (by decide) (by decide) (by decide) (ah1_bd _ _ _ (by decide) (by decide) (by decide) (ah1_bd _ _ _ (by decide) (by decide) (by decide) (az1_bd (by decide) _ _ _ (by decide) (by decide) (by decide) (az1_bd (by decide) _ _ _ (by decide) (by decide) (by decide) (az1_bd (by decide) _ _ _ (by decide) (by decide) (by decide) (az1_bd (by decide) _ _ _ (by decide) (by decide) (by decide) h))))))) (by decide)
  · exact bdN_le (ah1_bd _ _ _ (by decide) (by decide) (by decide) (ah1_bd _ _ _ (by decide) (by decide) (by decide) (ah1_bd _ _ _ (by decide) (by decide) (by decide) (az1_bd (by decide) _ _ _ (by decide) (by decide) (by decide) (az1_bd (by decide) _ _ _ (by decide) (by decide) (by decide) (az1_bd (by decide) _ _ _ (by decide) (by decide) (by decide) (az1_bd (by decide) _ _ _ (by decide) (by decide) (by decide) (az1_bd (by decide) _ _ _ (by decide) (by decide) (by decide) h)))))))) (by decide)
  · exact bdN_le (ah1_bd _ _ _ (by decide) (by decide) (by decide) (ah1_bd _ _ _ (by decide) (by decide) (by decide) (ah1_bd _ _ _ (by decide) (by decide) (by decide) (az1_bd (by decide) _ _ _ (by decide) (by decide) (by decide) (az1_bd (by decide) _ _ _ (by decide) (by decide) (by decide) (az1_bd (by decide) _ _ _ (by decide) (by decide) (by decide) (az1_bd (by decide) _ _ _ (by decide) (by decide) (by decide) (az1_bd (by decide) _ _ _ (by decide) (by decide) (by decide) (az1_bd (by decide) _ _ _ (by decide) (by decide) (by decide) h))))))))) (by decide)

/-! Adding in numbers -/
noncomputable def bn (b : Bool) : Nat := if b then 1 else 0
section LIN
variable (r f g : Nat → Nat) (jm sk : Nat → Bool)
noncomputable def coA : Nat → Bool
  | 0 => false
  | n + 1 => cyA r f g jm sk n
noncomputable def lsA : Nat → Nat
  | 0 => 0
  | n + 1 => lsA n + bn (coA r f g jm sk n && sk n) * wt r n
end LIN
section LIN2
variable {r f g : Nat → Nat} {jm sk : Nat → Bool}
theorem dg_id {w : Nat} (hf : f w < r w) (hg : g w < r w) : f2A r f g jm sk w + r w * bn (cyA r f g jm sk w) = mvA f g jm w + bn (coA r f g jm sk w && !sk w) := by
  have h1 : mvA f g jm w < 2 * r w := by unfold mvA; split <;> omega
  have h2 : mvA f g jm w ≤ f w + g w := by unfold mvA; split <;> omega
  cases w with
  | zero =>
    simp only [f2A, cyA, coA, f1A, bn, Bool.false_and, Bool.false_eq_true, if_false]
    by_cases z : r 0 ≤ mvA f g jm 0
    · simp only [z, if_true, decide_true]
      omega
    · simp only [z, if_false, decide_false, Bool.false_eq_true]
      omega
  | succ w =>
    simp only [f2A, cyA, coA, bn]
    by_cases hc0 : (cyA r f g jm sk w && !sk (w + 1)) = true
    rotate_left
    · have hc : (cyA r f g jm sk w && !sk (w + 1)) = false := by simpa using hc0
      simp only [hc, f1A, Bool.false_and, Bool.or_false, Bool.false_eq_true, if_false]
      by_cases z : r (w + 1) ≤ mvA f g jm (w + 1)
      · simp only [z, if_true, decide_true]
        omega
      · simp only [z, if_false, decide_false, Bool.false_eq_true]
        omega
    · simp only [hc0, f1A, Bool.true_and, if_true]
      by_cases z : r (w + 1) ≤ mvA f g jm (w + 1)
      · have z2 : ¬ mvA f g jm (w + 1) - r (w + 1) + 1 = r (w + 1) := by omega
        simp only [z, z2, if_true, if_false, decide_true, Bool.true_or]
        omega
      · by_cases z2 : mvA f g jm (w + 1) + 1 = r (w + 1)
        · simp only [z, z2, if_true, if_false, decide_true, decide_false, Bool.or_true]
          omega
        · simp only [z, z2, if_false, decide_false, Bool.or_false, Bool.false_eq_true]
          omega
theorem bn_split {a b : Bool} : bn a = bn (a && !b) + bn (a && b) := by cases a <;> cases b <;> rfl
theorem pre_id {n : Nat} (hf : ∀ w, w < n → f w < r w) (hg : ∀ w, w < n → g w < r w) : ∀ k, k ≤ n → nmb r (f2A r f g jm sk) k + bn (coA r f g jm sk k) * wt r k + lsA r f g jm sk k = nmb r f k + nmb r (fun w => if jm w then 0 else g w) k
  | 0, _ => by simp [nmb, coA, lsA, bn]
  | k + 1, hk => by
    have ih := pre_id hf hg k (by omega)
    have h1 := dg_id (jm := jm) (sk := sk) (hf k (by omega)) (hg k (by omega))
    have h2 := congrArg (· * wt r k) h1
    simp only [Nat.add_mul] at h2
    have h3 : r k * bn (cyA r f g jm sk k) * wt r k = bn (cyA r f g jm sk k) * wt r (k + 1) := by
      rw [wt, Nat.mul_comm (r k), Nat.mul_assoc, Nat.mul_comm (r k)]
    have h4 : mvA f g jm k * wt r k = f k * wt r k + (if jm k then 0 else g k) * wt r k := by
      rw [mvA, Nat.add_mul]
    have h5 : bn (coA r f g jm sk k) * wt r k = bn (coA r f g jm sk k && !sk k) * wt r k + bn (coA r f g jm sk k && sk k) * wt r k := by
      rw [← Nat.add_mul, ← bn_split]
    rw [h3, h4] at h2
    rw [nmb, nmb, nmb, lsA, show coA r f g jm sk (k + 1) = cyA r f g jm sk k from rfl]
    omega
theorem nmb_lt {n : Nat} (hf : ∀ w, w < n → f w < r w) : ∀ k, k ≤ n → nmb r f k < wt r k
  | 0, _ => by simp [nmb, wt]
  | k + 1, hk => by
    have ih := nmb_lt hf k (by omega)
    have h1 := hf k (by omega)
    have h2 : (f k + 1) * wt r k ≤ r k * wt r k := Nat.mul_le_mul_right _ h1
    rw [Nat.add_mul] at h2
    rw [nmb, wt, Nat.mul_comm (wt r k)]
    omega
theorem nmb_hi {w : Nat} : ∀ k, ∃ q, nmb r f (w + k) = nmb r f w + wt r w * q
  | 0 => ⟨0, by rw [Nat.add_zero, Nat.mul_zero, Nat.add_zero]⟩
  | k + 1 => by
    obtain ⟨q, hq⟩ := nmb_hi (w := w) k
    have : ∃ p, wt r (w + k) = wt r w * p := by
      clear hq q
      induction k with
      | zero => exact ⟨1, by rw [Nat.add_zero, Nat.mul_one]⟩
      | succ k ih =>
        obtain ⟨p, hp⟩ := ih
        exact ⟨p * r (w + k), by rw [← Nat.add_assoc, wt, hp, Nat.mul_assoc]⟩
    obtain ⟨p, hp⟩ := this
    refine ⟨q + f (w + k) * p, ?_⟩
    rw [← Nat.add_assoc, nmb, hq, hp, Nat.mul_add, Nat.add_assoc, Nat.mul_left_comm]
theorem nmb_mod {n w : Nat} (hw : w ≤ n) (hf : ∀ w, w < n → f w < r w) : nmb r f n % wt r w = nmb r f w := by
  obtain ⟨q, hq⟩ := nmb_hi (r := r) (f := f) (w := w) (n - w)
  rw [Nat.add_sub_cancel' hw] at hq
  rw [hq, Nat.add_mul_mod_self_left, Nat.mod_eq_of_lt (nmb_lt hf w hw)]
theorem nmb_dig {n w : Nat} (hw : w < n) (hf : ∀ w, w < n → f w < r w) (hr : ∀ w, w < n → 1 ≤ wt r w) : nmb r f n / wt r w % r w = f w := by
  obtain ⟨q, hq⟩ := nmb_hi (r := r) (f := f) (w := w + 1) (n - (w + 1))
  rw [Nat.add_sub_cancel' hw] at hq
  have h1 := nmb_lt hf w (by omega)
  have h2 := hr w hw
  rw [hq, nmb, wt, Nat.mul_assoc, Nat.mul_comm (f w), Nat.add_assoc, ← Nat.mul_add, Nat.add_mul_div_left _ _ h2, Nat.div_eq_of_lt h1, Nat.zero_add, Nat.add_mul_mod_self_left, Nat.mod_eq_of_lt (hf w hw)]
theorem nmb_c {f' : Nat → Nat} : ∀ n, (∀ w, w < n → f w = f' w) → nmb r f n = nmb r f' n
  | 0, _ => rfl
  | n + 1, h => by rw [nmb, nmb, nmb_c n (fun w hw => h w (by omega)), h n (by omega)]
/-- a figure taken out -/
theorem nmb_out {w0 : Nat} : ∀ n, nmb r (fun w => if decide (w = w0) then 0 else g w) n + (if w0 < n then g w0 * wt r w0 else 0) = nmb r g n
  | 0 => by simp [nmb]
  | n + 1 => by
    have ih := nmb_out (w0 := w0) n
    rw [nmb, nmb]
    by_cases z : n = w0
    · subst z
      rw [if_neg (by omega)] at ih
      simp only [decide_true, if_true, Nat.zero_mul]
      rw [if_pos (by omega)]
      omega
    · by_cases y : w0 < n
      · rw [if_pos y] at ih
        rw [if_pos (show w0 < n + 1 by omega)]
        simp only [z, decide_false, Bool.false_eq_true, if_false]
        omega
      · rw [if_neg y] at ih
        rw [if_neg (show ¬ w0 < n + 1 by omega)]
        simp only [z, decide_false, Bool.false_eq_true, if_false]
        omega
theorem lsA_0 (hs : ∀ w, sk w = false) : ∀ n, lsA r f g jm sk n = 0
  | 0 => rfl
  | n + 1 => by simp [lsA, lsA_0 hs n, hs n, bn]
theorem lsA_1 {w0 : Nat} (hs : ∀ w, sk w = decide (w = w0)) : ∀ n, lsA r f g jm sk n = if w0 < n then bn (coA r f g jm sk w0) * wt r w0 else 0
  | 0 => rfl
  | n + 1 => by
    rw [lsA, lsA_1 hs n, hs n]
    by_cases z : n = w0
    · subst z
      rw [if_neg (by omega), if_pos (by omega)]
      simp
    · by_cases y : w0 < n
      · rw [if_pos y, if_pos (by omega)]
        simp [z, bn]
      · rw [if_neg y, if_neg (by omega)]
        simp [z, bn]
theorem ad_no {n : Nat} (hf : ∀ w, w < n → f w < r w) (hg : ∀ w, w < n → g w < r w) (hj : ∀ w, jm w = false) (hs : ∀ w, sk w = false) : nmb r (f2A r f g jm sk) n = (nmb r f n + nmb r g n) % wt r n := by
  have h1 := pre_id (jm := jm) (sk := sk) hf hg n (Nat.le_refl _)
  have h2 := nmb_lt (f := f2A r f g jm sk) (r := r) (n := n) (fun w hw => f2A_lt (hf w hw) (hg w hw)) n (Nat.le_refl _)
  rw [lsA_0 hs, nmb_c (f := fun w => if jm w then 0 else g w) (f' := g) n (fun w hw => by simp [hj w])] at h1
  rw [← h1, Nat.add_zero, Nat.add_mul_mod_self_right, Nat.mod_eq_of_lt h2]
theorem ad_jm {n w0 : Nat} (hw : w0 < n) (hf : ∀ w, w < n → f w < r w) (hg : ∀ w, w < n → g w < r w) (hj : ∀ w, jm w = decide (w = w0)) (hs : ∀ w, sk w = false) : nmb r (f2A r f g jm sk) n = (nmb r f n + nmb r g n - g w0 * wt r w0) % wt r n ∧ g w0 * wt r w0 ≤ nmb r g n := by
  have h1 := pre_id (jm := jm) (sk := sk) hf hg n (Nat.le_refl _)
  have h2 := nmb_lt (f := f2A r f g jm sk) (r := r) (n := n) (fun w hw => f2A_lt (hf w hw) (hg w hw)) n (Nat.le_refl _)
  have h3 := nmb_out (r := r) (g := g) (w0 := w0) n
  rw [if_pos hw] at h3
  rw [lsA_0 hs, nmb_c (f := fun w => if jm w then 0 else g w) (f' := fun w => if decide (w = w0) then 0 else g w) n (fun w hw => by simp [hj w])] at h1
  have h4 : nmb r f n + nmb r g n - g w0 * wt r w0 = nmb r (f2A r f g jm sk) n + bn (coA r f g jm sk n) * wt r n := by omega
  exact ⟨by rw [h4, Nat.add_mul_mod_self_right, Nat.mod_eq_of_lt h2], by omega⟩
theorem coA_is {n w0 : Nat} (hw : w0 < n) (hf : ∀ w, w < n → f w < r w) (hg : ∀ w, w < n → g w < r w) (hj : ∀ w, jm w = false) (hs : ∀ w, sk w = decide (w = w0)) : bn (coA r f g jm sk w0) = if wt r w0 ≤ nmb r f w0 + nmb r g w0 then 1 else 0 := by
  have h1 := pre_id (jm := jm) (sk := sk) hf hg w0 (by omega)
  have h2 := nmb_lt (f := f2A r f g jm sk) (r := r) (n := n) (fun w hw => f2A_lt (hf w hw) (hg w hw)) w0 (by omega)
  rw [lsA_1 hs, if_neg (by omega), nmb_c (f := fun w => if jm w then 0 else g w) (f' := g) w0 (fun w hw => by simp [hj w])] at h1
  cases hc : coA r f g jm sk w0 with
  | false =>
    rw [hc] at h1
    simp only [bn, Bool.false_eq_true, if_false, Nat.zero_mul] at h1 ⊢
    rw [if_neg (by omega)]
  | true =>
    rw [hc] at h1
    simp only [bn, if_true, Nat.one_mul] at h1 ⊢
    rw [if_pos (by omega)]
theorem ad_sk {n w0 : Nat} (hw : w0 < n) (hf : ∀ w, w < n → f w < r w) (hg : ∀ w, w < n → g w < r w) (hj : ∀ w, jm w = false) (hs : ∀ w, sk w = decide (w = w0)) : nmb r (f2A r f g jm sk) n = (nmb r f n + nmb r g n - (if wt r w0 ≤ nmb r f n % wt r w0 + nmb r g n % wt r w0 then wt r w0 else 0)) % wt r n ∧ (if wt r w0 ≤ nmb r f n % wt r w0 + nmb r g n % wt r w0 then wt r w0 else 0) ≤ nmb r f n + nmb r g n := by
  have h1 := pre_id (jm := jm) (sk := sk) hf hg n (Nat.le_refl _)
  have h2 := nmb_lt (f := f2A r f g jm sk) (r := r) (n := n) (fun w hw => f2A_lt (hf w hw) (hg w hw)) n (Nat.le_refl _)
  have h3 := coA_is hw hf hg hj hs
  rw [lsA_1 hs, if_pos hw, h3, nmb_c (f := fun w => if jm w then 0 else g w) (f' := g) n (fun w hw => by simp [hj w])] at h1
  rw [nmb_mod (by omega) hf, nmb_mod (by omega) hg]
  have h4 : (if wt r w0 ≤ nmb r f w0 + nmb r g w0 then 1 else 0) * wt r w0 = if wt r w0 ≤ nmb r f w0 + nmb r g w0 then wt r w0 else 0 := by split <;> simp
  rw [h4] at h1
  generalize (if wt r w0 ≤ nmb r f w0 + nmb r g w0 then wt r w0 else 0) = L at h1 ⊢
  have h5 : nmb r f n + nmb r g n - L = nmb r (f2A r f g jm sk) n + bn (coA r f g jm sk n) * wt r n := by omega
  exact ⟨by rw [h5, Nat.add_mul_mod_self_right, Nat.mod_eq_of_lt h2], by omega⟩
/-- a wheel that slips -/
theorem nmb_slip {w0 y : Nat} : ∀ n, nmb r (fun w => if w = w0 then y else f w) n + (if w0 < n then f w0 * wt r w0 else 0) = nmb r f n + (if w0 < n then y * wt r w0 else 0)
  | 0 => by simp [nmb]
  | n + 1 => by
    have ih := nmb_slip (w0 := w0) (y := y) n
    rw [nmb, nmb]
    by_cases z : n = w0
    · subst z
      rw [if_neg (by omega), if_neg (by omega)] at ih
      rw [if_pos (show n < n + 1 by omega), if_pos (show n < n + 1 by omega), if_pos (show n = n from rfl)]
      omega
    · rw [if_neg z]
      by_cases u : w0 < n
      · rw [if_pos u, if_pos u] at ih
        rw [if_pos (by omega), if_pos (by omega)]
        omega
      · rw [if_neg u, if_neg u] at ih
        rw [if_neg (by omega), if_neg (by omega)]
        omega
end LIN2

/-! A turn with one mishap, in numbers -/
noncomputable def c1 (a w0 k : Nat) : Nat → Nat → Nat → Nat := fun x w q => if x = a ∧ w = w0 ∧ q = k then 1 else 0
/-- what is astray by a mishap: before, after -/
noncomputable def dlN (r : Nat → Nat) (W a w0 k : Nat) (X Y : Nat → Nat) : Nat :=
  if k = 0 then (if 0 < Y a / wt r w0 % r w0 then W - wt r w0 else (r w0 - 1) * wt r w0)
  else if k = 2 then (if 0 < (if a % 2 = 0 then X (a + 1) else Y (a + 1)) / wt r w0 % r w0 * wt r w0 then W - (if a % 2 = 0 then X (a + 1) else Y (a + 1)) / wt r w0 % r w0 * wt r w0 else 0)
  else if wt r w0 ≤ X a % wt r w0 + (if a % 2 = 0 then X (a + 1) else Y (a + 1)) % wt r w0 then W - wt r w0 else 0
noncomputable def asD (a k d : Nat) : Nat → Nat := fun y => if y = a then d else if ¬ k = 0 ∧ 0 < a ∧ a % 2 = 0 ∧ y + 1 = a then d else 0
section LT
variable {ax wh : Nat} {r : Nat → Nat}
theorem trn_no {cnt : Nat → Nat → Nat → Nat} {fg : Nat → Nat → Nat} (hd : dgL ax wh r fg) (h0 : ∀ x w q, cnt x w q = 0) : NN r wh (trnG ax r cnt fg) = trX ax (wt r wh) (NN r wh fg) ∧ dgL ax wh r (trnG ax r cnt fg) := by
  have e : trnG ax r cnt fg = adS ax r (fun x w => decide (0 < cnt x w 2)) (fun x w => decide (0 < cnt x w 1)) 4 1 (adS ax r (fun x w => decide (0 < cnt x w 2)) (fun x w => decide (0 < cnt x w 1)) 4 0 fg) := by
    funext x w
    unfold trnG
    rw [h0, dcN]
  have hn : ∀ x m w, (decide (0 < cnt (x + 2 * m) w 2)) = false ∧ (decide (0 < cnt (x + 2 * m) w 1)) = false := fun x m w => by simp [h0]
  rw [e]
  refine ⟨?_, adS_dg _ _ _ (adS_dg _ _ _ hd)⟩
  rw [adS_no 4 1 _ (adS_dg _ _ _ hd) (hn 1), adS_no 4 0 _ hd (hn 0)]
  rfl
theorem md_l {N W L : Nat} (hL : L ≤ N) (hW : L ≤ W) : (N - L) % W = (N + (W - L)) % W := by
  rw [show N + (W - L) = (N - L) + W by omega, Nat.add_mod_right]
/-- what the adding loses, from numbers -/
theorem ad_1 {a w0 k : Nat} (hk : k = 1 ∨ k = 2) (hw : w0 < wh) (hr : ∀ w, w < wh → 2 ≤ r w ∧ r w ≤ 12) {f0 f1 : Nat → Nat} (h0 : ∀ w, w < wh → f0 w < r w) (h1 : ∀ w, w < wh → f1 w < r w) {X Y : Nat → Nat} (hX : X a = nmb r f0 wh) (hg : (if a % 2 = 0 then X (a + 1) else Y (a + 1)) = nmb r f1 wh) : nmb r (f2A r f0 f1 (fun w => decide (0 < c1 a w0 k a w 2)) (fun w => decide (0 < c1 a w0 k a w 1))) wh = (nmb r f0 wh + nmb r f1 wh + dlN r (wt r wh) a w0 k X Y) % wt r wh := by
  have p0 := wt_pos hr wh (Nat.le_refl _)
  have pw := wt_pos hr w0 (by omega)
  have hp : ∀ w, w < wh → 1 ≤ wt r w := fun w hw => (wt_pos hr w (by omega)).1
  have l1 : ∀ d, d < r w0 → d * wt r w0 ≤ wt r wh := fun d hd => by
    obtain ⟨q, hq⟩ := wt_dvd (r := r) (w := w0) (wh - w0 - 1)
    rw [show w0 + 1 + (wh - w0 - 1) = wh by omega] at hq
    have q1 : 1 ≤ q := by
      apply Classical.byContradiction
      intro z
      rw [show q = 0 by omega, Nat.mul_zero, Nat.mul_zero] at hq
      omega
    rw [hq, Nat.mul_comm]
    exact Nat.mul_le_mul_left _ (Nat.le_trans (Nat.le_of_lt hd) (Nat.le_mul_of_pos_right _ q1))
  rcases hk with rfl | rfl
  · have e1 := (ad_sk (jm := fun w => decide (0 < c1 a w0 1 a w 2)) (sk := fun w => decide (0 < c1 a w0 1 a w 1)) hw h0 h1 (fun w => by by_cases z : w = w0 <;> simp [c1, z]) (fun w => by by_cases z : w = w0 <;> simp [c1, z]))
    have e2 : dlN r (wt r wh) a w0 1 X Y = if wt r w0 ≤ X a % wt r w0 + (if a % 2 = 0 then X (a + 1) else Y (a + 1)) % wt r w0 then wt r wh - wt r w0 else 0 := by
      unfold dlN
      rw [if_neg (by decide), if_neg (by decide)]
    rw [e1.1, e2, hX, hg]
    have e3 := e1.2
    have l2 := l1 1 (by have := hr w0 hw; omega)
    split
    · next z =>
      rw [if_pos z] at e3
      exact md_l e3 (by omega)
    · rw [Nat.sub_zero, Nat.add_zero]
  · have e1 := (ad_jm (jm := fun w => decide (0 < c1 a w0 2 a w 2)) (sk := fun w => decide (0 < c1 a w0 2 a w 1)) hw h0 h1 (fun w => by by_cases z : w = w0 <;> simp [c1, z]) (fun w => by by_cases z : w = w0 <;> simp [c1, z]))
    have e2 : dlN r (wt r wh) a w0 2 X Y = if 0 < (if a % 2 = 0 then X (a + 1) else Y (a + 1)) / wt r w0 % r w0 * wt r w0 then wt r wh - (if a % 2 = 0 then X (a + 1) else Y (a + 1)) / wt r w0 % r w0 * wt r w0 else 0 := by
      unfold dlN
      rw [if_neg (by decide), if_pos rfl]
    rw [e1.1, e2, hg, nmb_dig hw h1 hp]
    have e3 := e1.2
    have l2 := l1 (f1 w0) (h1 w0 hw)
    split
    · exact md_l (by omega) l2
    · next z => rw [show f1 w0 * wt r w0 = 0 by omega, Nat.sub_zero, Nat.add_zero]
end LT

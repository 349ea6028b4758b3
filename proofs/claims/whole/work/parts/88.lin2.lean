/-! A turn in numbers, and what is astray -/
noncomputable def addX (W x : Nat) (X : Nat → Nat) : Nat → Nat := fun y => if y = x then (X x + X (x + 1)) % W else X y
noncomputable def adX (ax W : Nat) : Nat → Nat → (Nat → Nat) → Nat → Nat
  | 0, _, X => X
  | k + 1, x, X => if x + 1 < ax then adX ax W k (x + 2) (addX W x X) else X
noncomputable def trX (ax W : Nat) (X : Nat → Nat) : Nat → Nat := adX ax W 4 1 (adX ax W 4 0 X)
noncomputable def pls (W : Nat) (X D : Nat → Nat) : Nat → Nat := fun y => (X y + D y) % W
noncomputable def pt (a d : Nat) : Nat → Nat := fun y => if y = a then d else 0
noncomputable def eqA (ax : Nat) (X Y : Nat → Nat) : Prop := ∀ y, y < ax → X y = Y y
noncomputable def bA (ax W : Nat) (X : Nat → Nat) : Prop := ∀ y, y < ax → X y < W
section LX
variable {ax W : Nat}
theorem addX_c {x : Nat} (hx : x + 1 < ax) {X Y : Nat → Nat} (h : eqA ax X Y) : eqA ax (addX W x X) (addX W x Y) := fun y hy => by
  unfold addX
  rw [h x (by omega), h (x + 1) hx, h y hy]
theorem adX_c : ∀ k x X Y, eqA ax X Y → eqA ax (adX ax W k x X) (adX ax W k x Y)
  | 0, _, _, _, h => h
  | k + 1, x, X, Y, h => by
    unfold adX
    split
    · next z => exact adX_c k (x + 2) _ _ (addX_c z h)
    · exact h
theorem trX_c {X Y : Nat → Nat} (h : eqA ax X Y) : eqA ax (trX ax W X) (trX ax W Y) := adX_c _ _ _ _ (adX_c _ _ _ _ h)
theorem addX_b {x : Nat} (hW : 1 ≤ W) {X : Nat → Nat} (h : bA ax W X) : bA ax W (addX W x X) := fun y hy => by
  unfold addX
  split
  · exact Nat.mod_lt _ hW
  · exact h y hy
theorem adX_b (hW : 1 ≤ W) : ∀ k x X, bA ax W X → bA ax W (adX ax W k x X)
  | 0, _, _, h => h
  | k + 1, x, X, h => by
    unfold adX
    split
    · exact adX_b hW k (x + 2) _ (addX_b hW h)
    · exact h
theorem trX_b (hW : 1 ≤ W) {X : Nat → Nat} (h : bA ax W X) : bA ax W (trX ax W X) := adX_b hW _ _ _ (adX_b hW _ _ _ h)
theorem addX_pls {x : Nat} {X D : Nat → Nat} : addX W x (pls W X D) = pls W (addX W x X) (addX W x D) := by
  funext y
  unfold addX pls
  dsimp only
  by_cases z : y = x
  · rw [if_pos z, if_pos z, if_pos z, Nat.add_mod_mod, Nat.mod_add_mod, Nat.add_mod_mod, Nat.mod_add_mod]
    congr 1
    omega
  · rw [if_neg z, if_neg z, if_neg z]
theorem adX_pls : ∀ k x X D, adX ax W k x (pls W X D) = pls W (adX ax W k x X) (adX ax W k x D)
  | 0, _, _, _ => rfl
  | k + 1, x, X, D => by
    unfold adX
    split
    · rw [addX_pls, adX_pls k (x + 2)]
    · rfl
theorem trX_pls {X D : Nat → Nat} : trX ax W (pls W X D) = pls W (trX ax W X) (trX ax W D) := by
  unfold trX
  rw [adX_pls, adX_pls]
theorem addX_o {x : Nat} {X : Nat → Nat} {y : Nat} (h : ¬ y = x) : addX W x X y = X y := if_neg h
/-- a lone number ahead of the axes that are added to stays alone -/
theorem adX_pt {a d : Nat} : ∀ k x, a < x → adX ax W k x (pt a d) = pt a d
  | 0, _, _ => rfl
  | k + 1, x, h => by
    unfold adX
    split
    · have e : addX W x (pt a d) = pt a d := by
        funext y
        unfold addX pt
        by_cases z : y = x
        · rw [if_pos z, if_neg (by omega), if_neg (by omega), if_neg (by omega), Nat.zero_mod]
        · rw [if_neg z]
      rw [e, adX_pt k (x + 2) (by omega)]
    · rfl
theorem adX_low {D : Nat → Nat} : ∀ k x, (∀ y, x ≤ y → D y = 0) → adX ax W k x D = D
  | 0, _, _ => rfl
  | k + 1, x, h => by
    unfold adX
    split
    · have e : addX W x D = D := by
        funext y
        unfold addX
        by_cases z : y = x
        · rw [if_pos z, h x (Nat.le_refl _), h (x + 1) (by omega), z, h x (Nat.le_refl _), Nat.zero_mod]
        · rw [if_neg z]
      rw [e, adX_low k (x + 2) (fun y hy => h y (by omega))]
    · rfl
theorem adX_par {y : Nat} : ∀ k x X, ¬ y % 2 = x % 2 → adX ax W k x X y = X y
  | 0, _, _, _ => rfl
  | k + 1, x, X, h => by
    unfold adX
    split
    · rw [adX_par k (x + 2) _ (by omega), addX_o (by intro z; rw [z] at h; exact h rfl)]
    · rfl
/-- a lone number is added to the axis ahead of it -/
theorem adX_two {a d : Nat} (ha : a < ax) (hd : d < W) : ∀ k x m, a = x + 1 + 2 * m → ax ≤ x + 2 * k → adX ax W k x (pt a d) = fun y => if y = a then d else if y + 1 = a then d else 0
  | 0, x, m, hm, hk => absurd hk (by omega)
  | k + 1, x, m, hm, hk => by
    have z : x + 1 < ax := by omega
    unfold adX
    rw [if_pos z]
    cases m with
    | zero =>
      have e : addX W x (pt a d) = fun y => if y = a then d else if y + 1 = a then d else 0 := by
        funext y
        unfold addX pt
        by_cases u : y = x
        · rw [if_pos u, if_neg (by omega), if_pos (by omega), Nat.zero_add, Nat.mod_eq_of_lt hd, if_neg (by omega), if_pos (by omega)]
        · rw [if_neg u]
          by_cases v : y = a
          · rw [if_pos v, if_pos v]
          · rw [if_neg v, if_neg v, if_neg (by omega)]
      rw [e, adX_low k (x + 2) (fun y hy => by rw [if_neg (by omega), if_neg (by omega)])]
    | succ m =>
      have e : addX W x (pt a d) = pt a d := by
        funext y
        unfold addX pt
        by_cases u : y = x
        · rw [if_pos u, if_neg (by omega), if_neg (by omega), if_neg (by omega), Nat.zero_mod]
        · rw [if_neg u]
      rw [e]
      exact adX_two ha hd k (x + 2) m (by omega) (by omega)
end LX
section LN
variable {ax wh : Nat} {r : Nat → Nat}
noncomputable def NN (r : Nat → Nat) (wh : Nat) (fg : Nat → Nat → Nat) : Nat → Nat := fun x => nmb r (fg x) wh
noncomputable def dgL (ax wh : Nat) (r : Nat → Nat) (fg : Nat → Nat → Nat) : Prop := ∀ x w, x < ax → w < wh → fg x w < r w
theorem NN_b {fg : Nat → Nat → Nat} (h : dgL ax wh r fg) : bA ax (wt r wh) (NN r wh fg) := fun y hy => nmb_lt (fun w hw => h y w hy hw) wh (Nat.le_refl _)
theorem addAx_dg {jm sk : Nat → Nat → Bool} {x : Nat} (hx : x + 1 < ax) {fg : Nat → Nat → Nat} (h : dgL ax wh r fg) : dgL ax wh r (addAx r jm sk x fg) := fun y w hy hw => by
  unfold addAx
  split
  · exact f2A_lt (h x w (by omega) hw) (h (x + 1) w hx hw)
  · exact h y w hy hw
theorem addAx_no {jm sk : Nat → Nat → Bool} {x : Nat} (hx : x + 1 < ax) {fg : Nat → Nat → Nat} (h : dgL ax wh r fg) (hj : ∀ w, jm x w = false) (hs : ∀ w, sk x w = false) : NN r wh (addAx r jm sk x fg) = addX (wt r wh) x (NN r wh fg) := by
  funext y
  unfold NN addAx addX
  by_cases z : y = x
  · simp only [z, if_true]
    exact ad_no (fun w hw => h x w (by omega) hw) (fun w hw => h (x + 1) w hx hw) hj hs
  · simp only [z, if_false]
theorem adS_dg {jm sk : Nat → Nat → Bool} : ∀ k x fg, dgL ax wh r fg → dgL ax wh r (adS ax r jm sk k x fg)
  | 0, _, _, h => h
  | k + 1, x, fg, h => by
    unfold adS
    split
    · next z => exact adS_dg k (x + 2) _ (addAx_dg z h)
    · exact h
theorem adS_no {jm sk : Nat → Nat → Bool} : ∀ k x fg, dgL ax wh r fg → (∀ m w, jm (x + 2 * m) w = false ∧ sk (x + 2 * m) w = false) → NN r wh (adS ax r jm sk k x fg) = adX ax (wt r wh) k x (NN r wh fg)
  | 0, _, _, _, _ => rfl
  | k + 1, x, fg, h, hn => by
    unfold adS adX
    split
    · next z =>
      rw [adS_no k (x + 2) _ (addAx_dg z h) (fun m w => by rw [show x + 2 + 2 * m = x + 2 * (m + 1) by omega]; exact hn (m + 1) w), addAx_no z h (fun w => (hn 0 w).1) (fun w => (hn 0 w).2)]
    · rfl
/-- a phase with something lost on the axis a -/
theorem adS_at {jm sk : Nat → Nat → Bool} {a d : Nat} (ha : a + 1 < ax) (hW : 1 ≤ wt r wh) {f0 f1 : Nat → Nat} (hl : nmb r (f2A r f0 f1 (jm a) (sk a)) wh = (nmb r f0 wh + nmb r f1 wh + d) % wt r wh) (hn : ∀ y w, ¬ y = a → jm y w = false ∧ sk y w = false) : ∀ k x fg m, dgL ax wh r fg → a = x + 2 * m → ax ≤ x + 2 * k → fg a = f0 → fg (a + 1) = f1 → eqA ax (NN r wh (adS ax r jm sk k x fg)) (pls (wt r wh) (adX ax (wt r wh) k x (NN r wh fg)) (pt a d))
  | 0, x, fg, m, h, hm, hk, h0, h1 => absurd hk (by omega)
  | k + 1, x, fg, m, h, hm, hk, h0, h1 => by
    have z : x + 1 < ax := by omega
    unfold adS adX
    rw [if_pos z, if_pos z]
    cases m with
    | zero =>
      have ex : a = x := by omega
      subst ex
      rw [adS_no k (a + 2) _ (addAx_dg z h) (fun m w => hn _ w (by omega))]
      have e : eqA ax (NN r wh (addAx r jm sk a fg)) (pls (wt r wh) (addX (wt r wh) a (NN r wh fg)) (pt a d)) := by
        intro y hy
        unfold pls pt addX NN addAx
        by_cases u : y = a
        · simp only [u, if_true]
          rw [h0, h1, hl, Nat.mod_add_mod]
        · simp only [u, if_false]
          rw [Nat.add_zero]
          exact (Nat.mod_eq_of_lt (NN_b h y hy)).symm
      intro y hy
      rw [adX_c k (a + 2) _ _ e y hy, adX_pls, adX_pt k (a + 2) (by omega)]
    | succ m =>
      have ih := adS_at ha hW hl hn k (x + 2) (addAx r jm sk x fg) m (addAx_dg z h) (by omega) (by omega) (by unfold addAx; rw [if_neg (by omega)]; exact h0) (by unfold addAx; rw [if_neg (by omega)]; exact h1)
      rw [addAx_no z h (fun w => (hn x w (by omega)).1) (fun w => (hn x w (by omega)).2)] at ih
      exact ih
end LN

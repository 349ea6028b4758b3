/-! A turn with one mishap, in numbers, whole -/
section LT4
variable {ax wh : Nat} {r : Nat → Nat}
theorem wt_big (hr : ∀ w, w < wh → 2 ≤ r w ∧ r w ≤ 12) {w0 : Nat} (hw : w0 < wh) : r w0 * wt r w0 ≤ wt r wh := by
  obtain ⟨q, hq⟩ := wt_dvd (r := r) (w := w0) (wh - w0 - 1)
  rw [show w0 + 1 + (wh - w0 - 1) = wh by omega] at hq
  have p0 := wt_pos hr wh (Nat.le_refl _)
  have q1 : 1 ≤ q := by
    apply Classical.byContradiction
    intro z
    rw [show q = 0 by omega, Nat.mul_zero, Nat.mul_zero] at hq
    omega
  rw [hq, Nat.mul_comm]
  exact Nat.mul_le_mul_left _ (Nat.le_mul_of_pos_right _ q1)
theorem dl_lt (hr : ∀ w, w < wh → 2 ≤ r w ∧ r w ≤ 12) {a w0 k : Nat} (hw : w0 < wh) {X Y : Nat → Nat} : dlN r (wt r wh) a w0 k X Y < wt r wh := by
  have p0 := wt_pos hr wh (Nat.le_refl _)
  have pw := wt_pos hr w0 (by omega)
  have b1 := wt_big hr hw
  have r0 := hr w0 hw
  have b2 : (r w0 - 1) * wt r w0 + wt r w0 = r w0 * wt r w0 := by
    rw [← Nat.succ_mul]
    congr 1
    omega
  unfold dlN
  repeat' split
  all_goals omega
theorem trn_1 {a w0 k : Nat} (h7 : ax ≤ 7) (ha : a + 1 < ax) (hk : k ≤ 2) (hw : w0 < wh) (hr : ∀ w, w < wh → 2 ≤ r w ∧ r w ≤ 12) {fg : Nat → Nat → Nat} (hd : dgL ax wh r fg) : eqA ax (NN r wh (trnG ax r (c1 a w0 k) fg)) (pls (wt r wh) (trX ax (wt r wh) (NN r wh fg)) (asD a k (dlN r (wt r wh) a w0 k (NN r wh fg) (trX ax (wt r wh) (NN r wh fg))))) ∧ dgL ax wh r (trnG ax r (c1 a w0 k) fg) := by
  have p0 := wt_pos hr wh (Nat.le_refl _)
  have dg2 : dgL ax wh r (adS ax r (fun x w => decide (0 < c1 a w0 k x w 2)) (fun x w => decide (0 < c1 a w0 k x w 1)) 4 1 (adS ax r (fun x w => decide (0 < c1 a w0 k x w 2)) (fun x w => decide (0 < c1 a w0 k x w 1)) 4 0 fg)) := adS_dg _ _ _ (adS_dg _ _ _ hd)
  refine ⟨?_, fun x w hx hw => ?_⟩
  rotate_left
  · unfold trnG
    exact dcN_lt (dg2 x w hx hw) _
  by_cases k0 : k = 0
  · subst k0
    have hn : ∀ x m w, (decide (0 < c1 a w0 0 (x + 2 * m) w 2)) = false ∧ (decide (0 < c1 a w0 0 (x + 2 * m) w 1)) = false := fun x m w => by simp [c1]
    have e1 := adS_no (jm := fun x w => decide (0 < c1 a w0 0 x w 2)) (sk := fun x w => decide (0 < c1 a w0 0 x w 1)) 4 1 _ (adS_dg (jm := fun x w => decide (0 < c1 a w0 0 x w 2)) (sk := fun x w => decide (0 < c1 a w0 0 x w 1)) 4 0 fg hd) (hn 1)
    rw [adS_no (jm := fun x w => decide (0 < c1 a w0 0 x w 2)) (sk := fun x w => decide (0 < c1 a w0 0 x w 1)) 4 0 _ hd (hn 0)] at e1
    have eT : trnG ax r (c1 a w0 0) fg = fun x w => dcN (r w) (c1 a w0 0 x w 0) (adS ax r (fun x w => decide (0 < c1 a w0 0 x w 2)) (fun x w => decide (0 < c1 a w0 0 x w 1)) 4 1 (adS ax r (fun x w => decide (0 < c1 a w0 0 x w 2)) (fun x w => decide (0 < c1 a w0 0 x w 1)) 4 0 fg) x w) := rfl
    rw [eT]
    clear eT
    revert dg2 e1
    generalize adS ax r (fun x w => decide (0 < c1 a w0 0 x w 2)) (fun x w => decide (0 < c1 a w0 0 x w 1)) 4 1 (adS ax r (fun x w => decide (0 < c1 a w0 0 x w 2)) (fun x w => decide (0 < c1 a w0 0 x w 1)) 4 0 fg) = f2
    intro dg2 e1
    have e1 : NN r wh f2 = trX ax (wt r wh) (NN r wh fg) := e1
    rw [← e1]
    intro y hy
    have b0 := NN_b dg2 y hy
    by_cases u : y = a
    · subst u
      have hp : ∀ w, w < wh → 1 ≤ wt r w := fun w hw => (wt_pos hr w (by omega)).1
      have e3 : NN r wh (fun x w => dcN (r w) (c1 y w0 0 x w 0) (f2 x w)) y = nmb r (fun w => if w = w0 then dec1 (r w0) (f2 y w0) else f2 y w) wh := by
        refine nmb_c wh (fun w hw => ?_)
        dsimp only
        by_cases z : w = w0
        · rw [if_pos z, z, show c1 y w0 0 y w0 0 = 1 from if_pos ⟨rfl, rfl, rfl⟩]
          rfl
        · rw [if_neg z, show c1 y w0 0 y w 0 = 0 from if_neg (fun q => z q.2.1), dcN]
      have e4 := nmb_slip (r := r) (f := f2 y) (w0 := w0) (y := dec1 (r w0) (f2 y w0)) wh
      rw [if_pos hw, if_pos hw] at e4
      have e5 : dlN r (wt r wh) y w0 0 (NN r wh fg) (NN r wh f2) = if 0 < f2 y w0 then wt r wh - wt r w0 else (r w0 - 1) * wt r w0 := by
        unfold dlN
        rw [if_pos rfl, show NN r wh f2 y / wt r w0 % r w0 = f2 y w0 from nmb_dig hw (fun w hw => dg2 y w hy hw) hp]
      have e6 : nmb r (fun w => if w = w0 then dec1 (r w0) (f2 y w0) else f2 y w) wh < wt r wh := nmb_lt (n := wh) (fun w hw => by
        have q1 := dg2 y w hy hw
        split
        · next z =>
          rw [z] at q1 ⊢
          exact dcN_lt q1 1
        · exact q1) wh (Nat.le_refl _)
      rw [e3]
      unfold pls asD
      rw [if_pos rfl, e5]
      have e7 : NN r wh f2 y = nmb r (f2 y) wh := rfl
      by_cases z : 0 < f2 y w0
      · have q2 : dec1 (r w0) (f2 y w0) = f2 y w0 - 1 := if_neg (by omega)
        have q3 : (f2 y w0 - 1) * wt r w0 + wt r w0 = f2 y w0 * wt r w0 := by
          rw [← Nat.succ_mul]
          congr 1
          omega
        have q4 := wt_big hr hw
        have q5 : 1 * wt r w0 ≤ r w0 * wt r w0 := Nat.mul_le_mul_right _ (by have := hr w0 hw; omega)
        rw [q2] at e4
        rw [if_pos z, ← md_l (by rw [e7]; omega) (by omega), e7, Nat.mod_eq_of_lt (by omega)]
        rw [q2]
        omega
      · have q1 : f2 y w0 = 0 := by omega
        have q2 : dec1 (r w0) (f2 y w0) = r w0 - 1 := if_pos q1
        rw [q2, q1, Nat.zero_mul] at e4
        rw [if_neg z, e7, ← e4, Nat.add_zero, q2]
        rw [q2] at e6
        exact (Nat.mod_eq_of_lt e6).symm
    · have e3 : NN r wh (fun x w => dcN (r w) (c1 a w0 0 x w 0) (f2 x w)) y = NN r wh f2 y := by
        refine nmb_c wh (fun w hw => ?_)
        dsimp only
        rw [show c1 a w0 0 y w 0 = 0 from if_neg (fun q => u q.1), dcN]
      rw [e3]
      unfold pls asD
      rw [if_neg u, if_neg (by omega), Nat.add_zero, Nat.mod_eq_of_lt b0]
  · have k12 : k = 1 ∨ k = 2 := by omega
    have eT : trnG ax r (c1 a w0 k) fg = adS ax r (fun x w => decide (0 < c1 a w0 k x w 2)) (fun x w => decide (0 < c1 a w0 k x w 1)) 4 1 (adS ax r (fun x w => decide (0 < c1 a w0 k x w 2)) (fun x w => decide (0 < c1 a w0 k x w 1)) 4 0 fg) := by
      funext x w
      unfold trnG
      rw [show c1 a w0 k x w 0 = 0 from if_neg (by omega), dcN]
    have hna : ∀ y w, ¬ y = a → (decide (0 < c1 a w0 k y w 2)) = false ∧ (decide (0 < c1 a w0 k y w 1)) = false := fun y w hy => by simp [c1, hy]
    rw [eT]
    by_cases par : a % 2 = 0
    · have hl := ad_1 (r := r) (wh := wh) (a := a) (w0 := w0) (k := k) k12 hw hr (fun w hw => hd a w (by omega) hw) (fun w hw => hd (a + 1) w ha hw) (X := NN r wh fg) (Y := trX ax (wt r wh) (NN r wh fg)) rfl (by rw [if_pos par]; rfl)
      have e0 := adS_at (jm := fun x w => decide (0 < c1 a w0 k x w 2)) (sk := fun x w => decide (0 < c1 a w0 k x w 1)) ha p0.1 hl hna 4 0 fg (a / 2) hd (by omega) (by omega) rfl rfl
      rw [adS_no 4 1 _ (adS_dg 4 0 fg hd) (fun m w => hna _ w (by omega))]
      intro y hy
      rw [adX_c 4 1 _ _ e0 y hy, adX_pls]
      unfold pls
      congr 2
      by_cases a0 : a = 0
      · rw [adX_pt 4 1 (by omega)]
        unfold pt asD
        by_cases u : y = a
        · rw [if_pos u, if_pos u]
        · rw [if_neg u, if_neg u, if_neg (by omega)]
      · rw [adX_two (by omega) (dl_lt hr hw) 4 1 ((a - 2) / 2) (by omega) (by omega)]
        unfold asD
        dsimp only
        by_cases u : y = a
        · rw [if_pos u, if_pos u]
        · rw [if_neg u, if_neg u]
          by_cases v : y + 1 = a
          · rw [if_pos v, if_pos (by omega)]
          · rw [if_neg v, if_neg (by omega)]
    · have e0 := adS_no (jm := fun x w => decide (0 < c1 a w0 k x w 2)) (sk := fun x w => decide (0 < c1 a w0 k x w 1)) 4 0 _ hd (fun m w => hna _ w (by omega))
      have dg1 := adS_dg (jm := fun x w => decide (0 < c1 a w0 k x w 2)) (sk := fun x w => decide (0 < c1 a w0 k x w 1)) 4 0 fg hd
      revert e0 dg1
      generalize adS ax r (fun x w => decide (0 < c1 a w0 k x w 2)) (fun x w => decide (0 < c1 a w0 k x w 1)) 4 0 fg = f1
      intro e0 dg1
      have x1 : NN r wh fg a = nmb r (f1 a) wh := by
        have := congrFun e0 a
        rw [adX_par 4 0 _ (by omega)] at this
        exact this.symm
      have x2 : trX ax (wt r wh) (NN r wh fg) (a + 1) = nmb r (f1 (a + 1)) wh := by
        unfold trX
        rw [adX_par 4 1 _ (by omega), ← e0]
        rfl
      have hl := ad_1 (r := r) (wh := wh) (a := a) (w0 := w0) (k := k) k12 hw hr (fun w hw => dg1 a w (by omega) hw) (fun w hw => dg1 (a + 1) w ha hw) (X := NN r wh fg) (Y := trX ax (wt r wh) (NN r wh fg)) x1 (by rw [if_neg par]; exact x2)
      have e2 := adS_at (jm := fun x w => decide (0 < c1 a w0 k x w 2)) (sk := fun x w => decide (0 < c1 a w0 k x w 1)) ha p0.1 hl hna 4 1 f1 ((a - 1) / 2) dg1 (by omega) (by omega) rfl rfl
      intro y hy
      rw [e2 y hy, e0]
      unfold pls
      show (trX ax (wt r wh) (NN r wh fg) y + _) % _ = _
      congr 2
      unfold pt asD
      by_cases u : y = a
      · rw [if_pos u, if_pos u]
      · rw [if_neg u, if_neg u, if_neg (by omega)]
end LT4

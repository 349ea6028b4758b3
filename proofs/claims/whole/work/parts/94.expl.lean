/-! What explains, in numbers -/
noncomputable def rX (ax W : Nat) : Nat → (Nat → Nat) → Nat → Nat
  | 0, X => X
  | i + 1, X => trX ax W (rX ax W i X)
section EXP
variable {ax wh : Nat} {r : Nat → Nat} {fg : Nat → Nat → Nat} {s : Int32} {N : Nat → Int64} {R : Nat}
theorem rX_b {W : Nat} (hW : 1 ≤ W) {X : Nat → Nat} (h : bA ax W X) : ∀ i, bA ax W (rX ax W i X)
  | 0 => h
  | i + 1 => trX_b hW (rX_b hW h i)
theorem gS_0 (hd : dgL ax wh r fg) {cq : Nat → Nat → Nat → Nat → Nat} {n : Nat} (h0 : ∀ t x w k, t ≤ n → cq t x w k = 0) : ∀ i, i ≤ n → NN r wh (gS ax r cq fg i) = rX ax (wt r wh) i (NN r wh fg) ∧ dgL ax wh r (gS ax r cq fg i)
  | 0, _ => ⟨rfl, hd⟩
  | i + 1, hi => by
    obtain ⟨h1, h2⟩ := gS_0 hd h0 i (by omega)
    obtain ⟨h3, h4⟩ := trn_no (cnt := cq (i + 1)) h2 (fun x w k => h0 _ x w k hi)
    refine ⟨?_, h4⟩
    rw [gS, h3, h1]
    rfl
noncomputable def dlT (ax wh : Nat) (r : Nat → Nat) (fg : Nat → Nat → Nat) (t a w0 k : Nat) : Nat := dlN r (wt r wh) a w0 k (rX ax (wt r wh) t (NN r wh fg)) (rX ax (wt r wh) (t + 1) (NN r wh fg))
theorem gS_1 (h7 : ax ≤ 7) (hr : ∀ w, w < wh → 2 ≤ r w ∧ r w ≤ 12) (hd : dgL ax wh r fg) {t a w0 k : Nat} (ha : a + 1 < ax) (hw : w0 < wh) (hk : k ≤ 2) : ∀ n, eqA ax (NN r wh (gS ax r (cqT (t + 1) a w0 k) fg (t + 1 + n))) (pls (wt r wh) (rX ax (wt r wh) (t + 1 + n) (NN r wh fg)) (rX ax (wt r wh) n (asD a k (dlT ax wh r fg t a w0 k)))) ∧ dgL ax wh r (gS ax r (cqT (t + 1) a w0 k) fg (t + 1 + n))
  | 0 => by
    obtain ⟨h1, h2⟩ := gS_0 (cq := cqT (t + 1) a w0 k) (n := t) hd (fun t' x w k' ht => if_neg (by omega)) t (Nat.le_refl _)
    have e1 : cqT (t + 1) a w0 k (t + 1) = c1 a w0 k := by
      funext x w q
      exact if_pos rfl
    obtain ⟨h3, h4⟩ := trn_1 h7 ha hk hw hr h2
    rw [Nat.add_zero, gS, e1]
    refine ⟨?_, h4⟩
    rw [h1] at h3
    exact h3
  | n + 1 => by
    obtain ⟨h1, h2⟩ := gS_1 h7 hr hd (t := t) ha hw hk n
    obtain ⟨h3, h4⟩ := trn_no (cnt := cqT (t + 1) a w0 k (t + 1 + n + 1)) h2 (fun x w q => if_neg (by omega))
    rw [← Nat.add_assoc, gS]
    refine ⟨?_, h4⟩
    rw [h3]
    intro y hy
    rw [trX_c h1 y hy, trX_pls]
    rfl
noncomputable def okN (ax W : Nat) (X : Nat → Nat) (s : Int32) (N : Nat → Int64) (i : Nat) : Prop := cutF s (lN (rX ax W (i + 1) X 0)) = N i
noncomputable def agr (ax W : Nat) (X D : Nat → Nat) (s : Int32) (N : Nat → Int64) (R t : Nat) : Prop := ∀ i, t ≤ i → i < R → cutF s (lN ((rX ax W (i + 1) X 0 + rX ax W (i - t) D 0) % W)) = N i
theorem shw_0 (hd : dgL ax wh r fg) : shw ax wh r cq0 fg s N R ↔ ∀ i, i < R → okN ax (wt r wh) (NN r wh fg) s N i := by
  unfold shw okS okN
  constructor
  · intro h i hi
    have := h i hi
    rw [(gS_0 (cq := cq0) (n := i + 1) hd (fun _ _ _ _ _ => rfl) (i + 1) (Nat.le_refl _)).1] at this
    exact this
  · intro h i hi
    rw [(gS_0 (cq := cq0) (n := i + 1) hd (fun _ _ _ _ _ => rfl) (i + 1) (Nat.le_refl _)).1]
    exact h i hi
theorem shw_1 (h7 : ax ≤ 7) (hr : ∀ w, w < wh → 2 ≤ r w ∧ r w ≤ 12) (hd : dgL ax wh r fg) {t a w0 k : Nat} (ha : a + 1 < ax) (hw : w0 < wh) (hk : k ≤ 2) : shw ax wh r (cqT (t + 1) a w0 k) fg s N R ↔ (∀ i, i < t → i < R → okN ax (wt r wh) (NN r wh fg) s N i) ∧ agr ax (wt r wh) (NN r wh fg) (asD a k (dlT ax wh r fg t a w0 k)) s N R t := by
  have e1 : ∀ i, i < t → NN r wh (gS ax r (cqT (t + 1) a w0 k) fg (i + 1)) = rX ax (wt r wh) (i + 1) (NN r wh fg) := fun i hi => (gS_0 (cq := cqT (t + 1) a w0 k) (n := t) hd (fun t' x w k' ht => if_neg (by omega)) (i + 1) (by omega)).1
  have e2 : ∀ i, t ≤ i → NN r wh (gS ax r (cqT (t + 1) a w0 k) fg (i + 1)) 0 = (rX ax (wt r wh) (i + 1) (NN r wh fg) 0 + rX ax (wt r wh) (i - t) (asD a k (dlT ax wh r fg t a w0 k)) 0) % wt r wh := fun i hi => by
    have := (gS_1 h7 hr hd (t := t) ha hw hk (i - t)).1 0 (by omega)
    rw [show t + 1 + (i - t) = i + 1 by omega] at this
    exact this
  unfold shw okS okN agr
  constructor
  · intro h
    refine ⟨fun i hi hR => ?_, fun i hi hR => ?_⟩
    · have := h i hR
      rw [e1 i hi] at this
      exact this
    · have := h i hR
      rw [e2 i hi] at this
      exact this
  · intro h i hR
    by_cases hi : i < t
    · rw [e1 i hi]
      exact h.1 i hi hR
    · rw [e2 i (by omega)]
      exact h.2 i (by omega) hR
theorem rX_0 {W : Nat} : ∀ n, rX ax W n (fun _ => 0) = fun _ => 0
  | 0 => rfl
  | n + 1 => by
    rw [rX, rX_0 n]
    unfold trX
    rw [adX_low 4 0 (fun _ _ => rfl), adX_low 4 1 (fun _ _ => rfl)]
/-- what a try is worth up to the first wrong row -/
theorem try_is (h7 : ax ≤ 7) (h2 : 2 ≤ ax) (hr : ∀ w, w < wh → 2 ≤ r w ∧ r w ≤ 12) (hd : dgL ax wh r fg) {t a w0 k f : Nat} (ha : a + 1 < ax) (hw : w0 < wh) (hk : k ≤ 2) (hf : f < R) (hf1 : ∀ i, i < f → okN ax (wt r wh) (NN r wh fg) s N i) (hf2 : ¬ okN ax (wt r wh) (NN r wh fg) s N f) : shw ax wh r (cqT (t + 1) a w0 k) fg s N R ↔ t ≤ f ∧ ¬ dlT ax wh r fg t a w0 k = 0 ∧ agr ax (wt r wh) (NN r wh fg) (asD a k (dlT ax wh r fg t a w0 k)) s N R t := by
  rw [shw_1 h7 hr hd ha hw hk]
  have hW := (wt_pos hr wh (Nat.le_refl _)).1
  constructor
  · intro h
    have g1 : t ≤ f := Classical.byContradiction fun z => hf2 (h.1 f (by omega) hf)
    refine ⟨g1, fun z => hf2 ?_, h.2⟩
    have := h.2 f g1 hf
    have e0 : asD a k 0 = fun _ => 0 := by
      funext y
      unfold asD
      split
      · rfl
      · split <;> rfl
    rw [z, e0, rX_0, Nat.add_zero, Nat.mod_eq_of_lt (rX_b hW (NN_b hd) _ 0 (by omega))] at this
    exact this
  · intro h
    exact ⟨fun i hi _ => hf1 i (by omega), h.2.2⟩
end EXP

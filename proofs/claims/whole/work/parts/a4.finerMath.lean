/-! finer: the two ways of rounding are one; the two tables are one -/
/-- a long that is a number of at most so much -/
noncomputable def bdI (x : Int64) (B : Nat) : Prop := ∃ z : Int, x = iL z ∧ z.natAbs ≤ B
theorem bdI_mono {x : Int64} {B C : Nat} (h : bdI x B) (hB : B ≤ C) : bdI x C := by
  obtain ⟨z, e, b⟩ := h
  exact ⟨z, e, by omega⟩
theorem bdI_add {x y : Int64} {B C : Nat} (h : bdI x B) (g : bdI y C) : bdI (x + y) (B + C) := by
  obtain ⟨z, rfl, b⟩ := h
  obtain ⟨w, rfl, b'⟩ := g
  exact ⟨z + w, iL_add z w, by omega⟩
theorem bdI_sub {x y : Int64} {B C : Nat} (h : bdI x B) (g : bdI y C) : bdI (x - y) (B + C) := by
  obtain ⟨z, rfl, b⟩ := h
  obtain ⟨w, rfl, b'⟩ := g
  exact ⟨z - w, iL_sub z w, by omega⟩
theorem bdI_mul {x y : Int64} {B C : Nat} (h : bdI x B) (g : bdI y C) : bdI (x * y) (B * C) := by
  obtain ⟨z, rfl, b⟩ := h
  obtain ⟨w, rfl, b'⟩ := g
  refine ⟨z * w, iL_mul z w, ?_⟩
  rw [Int.natAbs_mul]
  exact Nat.mul_le_mul b b'
theorem bdI_n {n B : Nat} (h : n ≤ B) : bdI (lN n) B := ⟨n, lN_iL n, by omega⟩
theorem bdI_rg {x : Int64} {B : Nat} (h : -(B : Int) ≤ x.toInt ∧ x.toInt ≤ B) : bdI x B := ⟨x.toInt, iL_of x, by omega⟩
theorem nrL_iL {a : Int} {u : Nat} (ha : -4611000000000000000 ≤ a ∧ a ≤ 4611000000000000000) (hu : u ≤ 40960000) : nrL (iL a) (lN u) = iL (nrN a u) := by
  have e2 : (2 : Int64) = iL 2 := rfl
  unfold nrL nrN
  rw [nr_two (by omega), lN_iL, e2, iL_mul, iL_add, iL_toInt (by omega) (by omega)]
noncomputable def rmD (D : Nat → Int64) (u b : Int64) : Nat → Int64 := fun i => iL ((D i).toInt / u.toInt) * b + nrL ((D i - iL ((D i).toInt / u.toInt) * u) * b) u
theorem rm_rn {D : Nat → Int64} {u f i : Nat} (h : bdI (D i) 4600000000000) (hu : 0 < u) (hu2 : u ≤ 40960000) (hf : f ≤ 6) : rmD D (lN u) (lN (10 ^ f)) i = rnD D (lN u) (lN (10 ^ f)) i := by
  obtain ⟨z, e, b⟩ := h
  have u0 : (0 : Int) < u := by omega
  have m0 := Int.mul_ediv_add_emod z u
  have m1 := Int.emod_nonneg z (show (u : Int) ≠ 0 by omega)
  have m2 := Int.emod_lt_of_pos z u0
  have c1 : z / u * u = u * (z / u) := Int.mul_comm _ _
  have z1 : (iL z).toInt = z := iL_toInt (by omega) (by omega)
  have u1 : (lN u).toInt = u := lN_toInt63 (by omega)
  unfold rmD rnD
  rw [e, z1, u1, lN_iL (10 ^ f), lN_iL u, iL_mul, iL_mul, iL_mul, iL_sub, iL_mul, ← lN_iL u]
  have sp := nr_split (D := z) (b := ((10 ^ f : Nat) : Int)) u0
  rcases (show f = 0 ∨ f = 1 ∨ f = 2 ∨ f = 3 ∨ f = 4 ∨ f = 5 ∨ f = 6 by omega) with rfl | rfl | rfl | rfl | rfl | rfl | rfl
  all_goals
    simp only [Nat.reducePow] at sp ⊢
    rw [nrL_iL (by omega) hu2, nrL_iL (by omega) hu2, iL_add, sp]
noncomputable def mlR (n : Nat) (u b : Int64) (P : Nat → Int64) : Nat → Nat → (Nat → Int64) → Int32
  | 0, _, _ => 1
  | z + 1, i, R => if nrL (R 0) b = nrL (P i) u then mlR n u b P z (i + 1) (tx n R) else 0
theorem bk_0 {n : Nat} (h2 : 2 ≤ n) (h5 : n ≤ 5) {P : Nat → Int64} : bkD n P 0 = P 0 := by
  rcases (show n = 2 ∨ n = 3 ∨ n = 4 ∨ n = 5 by omega) with rfl | rfl | rfl | rfl <;> simp [bkD, toA, azO, az1, ah1, vp_updL]
theorem al_ml {n : Nat} (h2 : 2 ≤ n) (h5 : n ≤ 5) {u b : Int64} {P : Nat → Int64} (hP : ∀ i, eqN n (tx n (bkD n (fun q => P (q + i)))) (bkD n (fun q => P (q + (i + 1))))) : ∀ z i R, alR n u b z (bkD n (fun q => P (q + i))) R = mlR n u b P z i R
  | 0, _, _ => rfl
  | z + 1, i, R => by
    have ih := al_ml h2 h5 (u := u) (b := b) hP z (i + 1) (tx n R)
    rw [← alR_eq (by omega) z _ _ (tx n R) (tx n R) (hP i) (fun _ _ => rfl)] at ih
    unfold alR mlR
    rw [ih, bk_0 h2 h5, Nat.zero_add]
    by_cases y : nrL (P i) u = nrL (R 0) b
    · rw [if_pos y, if_pos y.symm]
    · rw [if_neg y, if_neg (fun z => y z.symm)]
theorem mlR_eq {n : Nat} (hn : 1 ≤ n) {u b : Int64} {P : Nat → Int64} : ∀ z i R R', eqN n R R' → mlR n u b P z i R = mlR n u b P z i R'
  | 0, _, _, _, _ => rfl
  | z + 1, i, R, R', h => by
    unfold mlR
    rw [h 0 (by omega), mlR_eq hn z (i + 1) _ _ (tx_eq h)]
theorem lNs (n a : Nat) : lN (n + a) = lN n + lN a := by
  rw [lN_iL, lN_iL, lN_iL, iL_add]
  congr 1
theorem sv_turn {d : Nat → Int64} {m : Int64} {k : Nat} (hk : 1 ≤ k) (hk4 : k ≤ 4) (i : Nat) : eqN (k + 1) (tx (k + 1) (bkD (k + 1) (fun q => svP d m k (lN (q + i))))) (bkD (k + 1) (fun q => svP d m k (lN (q + (i + 1))))) := by
  have e : (fun q => svP d m k (lN (q + (i + 1)))) = (fun q => (fun q => svP d m k (lN (q + i))) (q + 1)) := by
    funext q
    show _ = svP d m k (lN (q + 1 + i))
    rw [show q + (i + 1) = q + 1 + i by omega]
  have n1 : lN 1 = 1 := rfl
  have n2 : lN 2 = 2 := rfl
  have n3 : lN 3 = 3 := rfl
  have n4 : lN 4 = 4 := rfl
  have n5 : lN 5 = 5 := rfl
  rw [e]
  rcases (show k = 1 ∨ k = 2 ∨ k = 3 ∨ k = 4 by omega) with rfl | rfl | rfl | rfl
  · refine bk_turn_2 ?_
    have := p1_d (d 0) (d 1) m (lN i)
    simp only [sv_1, Nat.zero_add]
    rw [Nat.add_comm 2 i, Nat.add_comm 1 i, lNs i 2, lNs i 1, n1, n2]
    exact this
  · refine bk_turn_3 ?_
    have := p2_d (d 0) (d 1) (d 2) m (lN i)
    simp only [sv_2, Nat.zero_add]
    rw [Nat.add_comm 3 i, Nat.add_comm 2 i, Nat.add_comm 1 i, lNs i 3, lNs i 2, lNs i 1, n1, n2, n3]
    exact this
  · refine bk_turn_4 ?_
    have := p3_d (d 0) (d 1) (d 2) (d 3) m (lN i)
    simp only [sv_3, Nat.zero_add]
    rw [Nat.add_comm 4 i, Nat.add_comm 3 i, Nat.add_comm 2 i, Nat.add_comm 1 i, lNs i 4, lNs i 3, lNs i 2, lNs i 1, n1, n2, n3, n4]
    exact this
  · refine bk_turn_5 ?_
    have := p4_d (d 0) (d 1) (d 2) (d 3) (d 4) m (lN i)
    simp only [sv_4, Nat.zero_add]
    rw [Nat.add_comm 5 i, Nat.add_comm 4 i, Nat.add_comm 3 i, Nat.add_comm 2 i, Nat.add_comm 1 i, lNs i 5, lNs i 4, lNs i 3, lNs i 2, lNs i 1, n1, n2, n3, n4, n5]
    exact this
theorem fd0_bd {t : Nat → Int64} {k : Nat} (hk : 1 ≤ k) (hk4 : k ≤ 4) (h : ∀ j, j < k + 1 → bdI (t j) 10000) : ∀ j, j < k + 1 → bdI (fd0 t k j) (10000 * 2 ^ j) := by
  intro j hj
  have h0 := h 0 (by omega)
  have h1 := h 1 (by omega)
  unfold fd0
  rcases (show k = 1 ∨ k = 2 ∨ k = 3 ∨ k = 4 by omega) with rfl | rfl | rfl | rfl
  · rcases (show j = 0 ∨ j = 1 by omega) with rfl | rfl
    all_goals
      simp only [azO, az1, vp_updL, Nat.reduceAdd, Nat.reduceSub, Nat.reduceEqDiff, if_true, if_false, reduceCtorEq]
      apply bdI_mono
      · repeat' (first | exact h0 | exact h1 | apply bdI_sub)
      · decide
  · have h2 := h 2 (by omega)
    rcases (show j = 0 ∨ j = 1 ∨ j = 2 by omega) with rfl | rfl | rfl
    all_goals
      simp [azO, az1, vp_updL]
      apply bdI_mono
      · repeat' (first | exact h0 | exact h1 | exact h2 | apply bdI_sub)
      · decide
  · have h2 := h 2 (by omega)
    have h3 := h 3 (by omega)
    rcases (show j = 0 ∨ j = 1 ∨ j = 2 ∨ j = 3 by omega) with rfl | rfl | rfl | rfl
    all_goals
      simp [azO, az1, vp_updL]
      apply bdI_mono
      · repeat' (first | exact h0 | exact h1 | exact h2 | exact h3 | apply bdI_sub)
      · decide
  · have h2 := h 2 (by omega)
    have h3 := h 3 (by omega)
    have h4 := h 4 (by omega)
    rcases (show j = 0 ∨ j = 1 ∨ j = 2 ∨ j = 3 ∨ j = 4 by omega) with rfl | rfl | rfl | rfl | rfl
    all_goals
      simp [azO, az1, vp_updL]
      apply bdI_mono
      · repeat' (first | exact h0 | exact h1 | exact h2 | exact h3 | exact h4 | apply bdI_sub)
      · decide
theorem fP_bd {t : Nat → Int64} {k M i : Nat} (hk : 1 ≤ k) (hk4 : k ≤ 4) (hM : M ≤ 20) (hi : i < 5) (h : ∀ j, j < k + 1 → bdI (t j) 10000) : bdI (fP t k M i) 143000000000 := by
  have d := fd0_bd hk hk4 h
  have d0 := d 0 (by omega)
  have d1 := d 1 (by omega)
  have m := bdI_n hM
  have j := bdI_n (show i ≤ 4 by omega)
  have c2 : bdI 2 2 := ⟨2, rfl, by decide⟩
  have c3 : bdI 3 3 := ⟨3, rfl, by decide⟩
  have c4 : bdI 4 4 := ⟨4, rfl, by decide⟩
  have c6 : bdI 6 6 := ⟨6, rfl, by decide⟩
  have c12 : bdI 12 12 := ⟨12, rfl, by decide⟩
  have c24 : bdI 24 24 := ⟨24, rfl, by decide⟩
  unfold fP
  rcases (show k = 1 ∨ k = 2 ∨ k = 3 ∨ k = 4 by omega) with rfl | rfl | rfl | rfl
  · rw [sv_1]
    unfold p1
    exact bdI_mono (bdI_add (bdI_mul d0 m) (bdI_mul j d1)) (by decide)
  · have d2 := d 2 (by omega)
    rw [sv_2]
    unfold p2
    exact bdI_mono (bdI_add (bdI_mul d0 (bdI_mul c2 (bdI_mul m m))) (bdI_mul j (bdI_add (bdI_mul d1 (bdI_mul c2 m)) (bdI_mul (bdI_sub j m) d2)))) (by decide)
  · have d2 := d 2 (by omega)
    have d3 := d 3 (by omega)
    rw [sv_3]
    unfold p3
    exact bdI_mono (bdI_add (bdI_mul d0 (bdI_mul c6 (bdI_mul (bdI_mul m m) m))) (bdI_mul j (bdI_add (bdI_mul d1 (bdI_mul c6 (bdI_mul m m))) (bdI_mul (bdI_sub j m) (bdI_add (bdI_mul d2 (bdI_mul c3 m)) (bdI_mul (bdI_sub j (bdI_mul c2 m)) d3)))))) (by decide)
  · have d2 := d 2 (by omega)
    have d3 := d 3 (by omega)
    have d4 := d 4 (by omega)
    rw [sv_4]
    unfold p4
    exact bdI_mono (bdI_add (bdI_mul d0 (bdI_mul c24 (bdI_mul (bdI_mul (bdI_mul m m) m) m))) (bdI_mul j (bdI_add (bdI_mul d1 (bdI_mul c24 (bdI_mul (bdI_mul m m) m))) (bdI_mul (bdI_sub j m) (bdI_add (bdI_mul d2 (bdI_mul c12 (bdI_mul m m))) (bdI_mul (bdI_sub j (bdI_mul c2 m)) (bdI_add (bdI_mul d3 (bdI_mul c4 m)) (bdI_mul (bdI_sub j (bdI_mul c3 m)) d4)))))))) (by decide)
theorem bkD_bdI {P : Nat → Int64} {n : Nat} (h2 : 2 ≤ n) (h5 : n ≤ 5) (h : ∀ j, j < n → bdI (P j) 143000000000) : ∀ j, j < n → bdI (bkD n P j) 4600000000000 := by
  intro j hj
  have h0 := h 0 (by omega)
  have h1 := h 1 (by omega)
  rcases (show n = 2 ∨ n = 3 ∨ n = 4 ∨ n = 5 by omega) with rfl | rfl | rfl | rfl
  · rcases (show j = 0 ∨ j = 1 by omega) with rfl | rfl
    all_goals
      simp [bkD, toA, azO, az1, ah1, vp_updL]
      apply bdI_mono
      · repeat' (first | exact h0 | exact h1 | apply bdI_sub)
      · decide
  · have h2 := h 2 (by omega)
    rcases (show j = 0 ∨ j = 1 ∨ j = 2 by omega) with rfl | rfl | rfl
    all_goals
      simp [bkD, toA, azO, az1, ah1, vp_updL]
      apply bdI_mono
      · repeat' (first | exact h0 | exact h1 | exact h2 | apply bdI_sub)
      · decide
  · have h2 := h 2 (by omega)
    have h3 := h 3 (by omega)
    rcases (show j = 0 ∨ j = 1 ∨ j = 2 ∨ j = 3 by omega) with rfl | rfl | rfl | rfl
    all_goals
      simp [bkD, toA, azO, az1, ah1, vp_updL]
      apply bdI_mono
      · repeat' (first | exact h0 | exact h1 | exact h2 | exact h3 | apply bdI_sub)
      · decide
  · have h2 := h 2 (by omega)
    have h3 := h 3 (by omega)
    have h4 := h 4 (by omega)
    rcases (show j = 0 ∨ j = 1 ∨ j = 2 ∨ j = 3 ∨ j = 4 by omega) with rfl | rfl | rfl | rfl | rfl
    all_goals
      simp [bkD, toA, azO, az1, ah1, vp_updL]
      apply bdI_mono
      · repeat' (first | exact h0 | exact h1 | exact h2 | exact h3 | exact h4 | apply bdI_sub)
      · decide

/-! the shapes of what reads and writes the heap -/
theorem gF_is {E : aEnv} {ah : aHp} {n : Nat} {st st' : List Value} (h : gF E ah n st = some st') : ∃ a r fs v, st = .ref a :: r ∧ hg E ah a = some (.inr (n / 1000, fs)) ∧ fs[n % 1000 / 10]? = some v ∧ st' = v :: r := by
  unfold gF at h; split at h
  · split at h
    · next a r _ ci fs hq =>
      split at h
      · next hc =>
        split at h
        · next v hv => cases h; subst hc; exact ⟨_, _, _, _, rfl, hq, hv, rfl⟩
        · cases h
      · cases h
    · cases h
  · cases h
theorem gI_is {E : aEnv} {ah : aHp} {st st' : List Value} (h : gI E ah st = some st') : ∃ i a r n f, st = .int i :: .ref a :: r ∧ vp_in i n ∧ st' = .int (f i.toNatClampNeg) :: r ∧ (hg E ah a = some (.inl (0, n, .inl f)) ∨ E.2.1 a = some (n, f)) := by
  unfold gI at h; split at h
  · split at h
    · next hq =>
      split at h
      · cases h
      · next hi => cases h; exact ⟨_, _, _, _, _, rfl, hi, rfl, Or.inl hq⟩
    · cases h
    · split at h
      · next hq =>
        split at h
        · cases h
        · next hi => cases h; exact ⟨_, _, _, _, _, rfl, hi, rfl, Or.inr hq⟩
      · cases h
  · cases h
theorem gL_is {E : aEnv} {ah : aHp} {st st' : List Value} (h : gL E ah st = some st') : ∃ i a r n f, st = .int i :: .ref a :: r ∧ vp_in i n ∧ st' = .long (f i.toNatClampNeg) :: r ∧ hg E ah a = some (.inl (1, n, .inr (.inl f))) := by
  unfold gL at h; split at h
  · split at h
    · next hq =>
      split at h
      · cases h
      · next hi => cases h; exact ⟨_, _, _, _, _, rfl, hi, rfl, hq⟩
    · cases h
  · cases h
theorem gB_is {E : aEnv} {ah : aHp} {st st' : List Value} (h : gB E ah st = some st') : ∃ i a r n f, st = .int i :: .ref a :: r ∧ vp_in i n ∧ st' = .int (f i.toNatClampNeg) :: r ∧ (hg E ah a = some (.inl (2, n, .inl f)) ∨ hg E ah a = some (.inl (3, n, .inl f))) := by
  unfold gB at h; split at h
  · split at h
    · next hq =>
      split at h
      · cases h
      · next hi => cases h; exact ⟨_, _, _, _, _, rfl, hi, rfl, Or.inl hq⟩
    · next hq =>
      split at h
      · cases h
      · next hi => cases h; exact ⟨_, _, _, _, _, rfl, hi, rfl, Or.inr hq⟩
    · cases h
  · cases h
theorem gA_is {E : aEnv} {ah : aHp} {st st' : List Value} (h : gA E ah st = some st') : ∃ i a r t n f, st = .int i :: .ref a :: r ∧ vp_in i n ∧ st' = va_rf (f i.toNatClampNeg) :: r ∧ hg E ah a = some (.inl (t, n, .inr (.inr (.inr (.inr f))))) ∧ 4 ≤ t ∧ t ≤ 6 := by
  unfold gA at h; split at h
  · split at h
    · next hq =>
      split at h
      · cases h
      · next hi =>
        cases h
        exact ⟨_, _, _, _, _, _, rfl, fun q => hi (Or.inr (Or.inr q)), rfl, hq, Nat.not_lt.mp fun q => hi (Or.inl q), Nat.not_lt.mp fun q => hi (Or.inr (Or.inl q))⟩
    · cases h
  · cases h
theorem gN_is {E : aEnv} {ah : aHp} {st st' : List Value} (h : gN E ah st = some st') : ∃ a r n, st = .ref a :: r ∧ st' = .int (Int32.ofNat n) :: r ∧ ((∃ t z, t ≤ 6 ∧ hg E ah a = some (.inl (t, n, z))) ∨ ∃ f, E.2.1 a = some (n, f)) := by
  unfold gN at h; split at h
  · split at h
    · next hq =>
      split at h
      · cases h
      · next hi => cases h; exact ⟨_, _, _, rfl, rfl, Or.inl ⟨_, _, Nat.not_lt.mp hi, hq⟩⟩
    · cases h
    · split at h
      · next hq => cases h; exact ⟨_, _, _, rfl, rfl, Or.inr ⟨_, hq⟩⟩
      · cases h
  · cases h
theorem gC_is {E : aEnv} {n : Nat} {st st' : List Value} (h : gC E n st = some st') : ∃ v, E.2.2.1 n = some v ∧ st' = v :: st := by
  unfold gC at h; split at h
  · next hv => cases h; exact ⟨_, hv, rfl⟩
  · cases h
theorem pF_is {E : aEnv} {ah : aHp} {n : Nat} {st : List Value} {q : List Value × aHp} (h : pF E ah n st = some q) : ∃ v a r fs, st = v :: .ref a :: r ∧ hg E ah a = some (.inr (n / 1000, fs)) ∧ fitv (n % 10) v = true ∧ n % 1000 / 10 < fs.length ∧ q = (r, hs E ah a (.inr (n / 1000, fs.set (n % 1000 / 10) v))) := by
  unfold pF at h; split at h
  · split at h
    · next ci fs hq =>
      split at h
      · next hc =>
        cases h
        obtain ⟨h1, h2, h3⟩ := hc
        subst h1
        exact ⟨_, _, _, _, rfl, hq, h2, h3, rfl⟩
      · cases h
    · cases h
  · cases h
theorem pI_is {E : aEnv} {ah : aHp} {st : List Value} {q : List Value × aHp} (h : pI E ah st = some q) : ∃ x i a r n f, st = .int x :: .int i :: .ref a :: r ∧ hg E ah a = some (.inl (0, n, .inl f)) ∧ vp_in i n ∧ q = (r, hs E ah a (.inl (0, n, .inl (upd f i.toNatClampNeg x)))) := by
  unfold pI at h; split at h
  · split at h
    · next hq =>
      split at h
      · cases h
      · next hi => cases h; exact ⟨_, _, _, _, _, _, rfl, hq, hi, rfl⟩
    · cases h
  · cases h
theorem pL_is {E : aEnv} {ah : aHp} {st : List Value} {q : List Value × aHp} (h : pL E ah st = some q) : ∃ x i a r n f, st = .long x :: .int i :: .ref a :: r ∧ hg E ah a = some (.inl (1, n, .inr (.inl f))) ∧ vp_in i n ∧ q = (r, hs E ah a (.inl (1, n, .inr (.inl (vp_updL f i.toNatClampNeg x))))) := by
  unfold pL at h; split at h
  · split at h
    · next hq =>
      split at h
      · cases h
      · next hi => cases h; exact ⟨_, _, _, _, _, _, rfl, hq, hi, rfl⟩
    · cases h
  · cases h
theorem pB_is {E : aEnv} {ah : aHp} {st : List Value} {q : List Value × aHp} (h : pB E ah st = some q) : ∃ x i a r n f, st = .int x :: .int i :: .ref a :: r ∧ vp_in i n ∧ ((hg E ah a = some (.inl (2, n, .inl f)) ∧ q = (r, hs E ah a (.inl (2, n, .inl (upd f i.toNatClampNeg (vp_nar .byte x)))))) ∨ (hg E ah a = some (.inl (3, n, .inl f)) ∧ q = (r, hs E ah a (.inl (3, n, .inl (upd f i.toNatClampNeg (vp_nar .boolean x))))))) := by
  unfold pB at h; split at h
  · split at h
    · next hq =>
      split at h
      · cases h
      · next hi => cases h; exact ⟨_, _, _, _, _, _, rfl, hi, Or.inl ⟨hq, rfl⟩⟩
    · next hq =>
      split at h
      · cases h
      · next hi => cases h; exact ⟨_, _, _, _, _, _, rfl, hi, Or.inr ⟨hq, rfl⟩⟩
    · cases h
  · cases h
theorem pA_is {E : aEnv} {ah : aHp} {st : List Value} {q : List Value × aHp} (h : pA E ah st = some q) : ∃ v i a r t n f vs, st = .ref v :: .int i :: .ref a :: r ∧ hg E ah a = some (.inl (t, n, .inr (.inr (.inr (.inr f))))) ∧ hg E ah v = some (.inr (cO t, vs)) ∧ (t = 4 ∨ t = 5) ∧ vp_in i n ∧ q = (r, hs E ah a (.inl (t, n, .inr (.inr (.inr (.inr (va_up f i.toNatClampNeg (some v)))))))) := by
  unfold pA at h; split at h
  · split at h
    · next t n f ci vs hq hv =>
      split at h
      · cases h
      · next hi =>
        cases h
        have h4 : ¬ t < 4 := fun q => hi (Or.inl q)
        have h5 : ¬ 5 < t := fun q => hi (Or.inr (Or.inl q))
        have hc : ci = cO t := Classical.not_not.mp fun q => hi (Or.inr (Or.inr (Or.inl q)))
        subst hc
        exact ⟨_, _, _, _, _, _, _, _, rfl, hq, hv, by omega, fun q => hi (Or.inr (Or.inr (Or.inr q))), rfl⟩
    · cases h
  · cases h
theorem nR_is {E : aEnv} {ah : aHp} {t : Nat} {st : List Value} {q : List Value × aHp} (h : nR E ah t st = some q) : ∃ n r, st = .int n :: r ∧ ¬ n < 0 ∧ n.toNatClampNeg ≤ wid ∧ q = (.ref (E.1 + ah.length) :: r, ah ++ [.inl (t, aZ t n.toNatClampNeg)]) := by
  unfold nR at h; split at h
  · split at h
    · cases h
    · next hi => cases h; exact ⟨_, _, rfl, fun q => hi (Or.inl q), Nat.not_lt.mp fun q => hi (Or.inr (Or.inl q)), rfl⟩
  · cases h
theorem nO_is {E : aEnv} {ah : aHp} {ci : Nat} {st : List Value} {q : List Value × aHp} (h : nO E ah ci st = some q) : ci ≤ 11 ∧ q = (.ref (E.1 + ah.length) :: st, ah ++ [.inr (ci, dfl ci)]) := by
  unfold nO at h; split at h
  · cases h
  · next hi => cases h; exact ⟨Nat.not_lt.mp fun q => hi (Or.inl q), rfl⟩
theorem nM_is {E : aEnv} {ah : aHp} {st : List Value} {q : List Value × aHp} (h : nM E ah st = some q) : ∃ m n r, st = .int m :: .int n :: r ∧ ¬ n < 0 ∧ ¬ m < 0 ∧ n.toNatClampNeg ≤ wid ∧ m.toNatClampNeg ≤ wid ∧ ah.length + n.toNatClampNeg + 1 ≤ lim ∧
    q = (.ref (E.1 + ah.length) :: r, ah ++ .inl (6, n.toNatClampNeg, .inr (.inr (.inr (.inr (fun j => if j < n.toNatClampNeg then some (E.1 + ah.length + 1 + j) else none))))) :: List.replicate n.toNatClampNeg (.inl (0, m.toNatClampNeg, .inl (fun _ => 0)))) := by
  unfold nM at h; split at h
  · split at h
    · cases h
    · next hi =>
      cases h
      refine ⟨_, _, _, rfl, fun q => hi (Or.inl q), fun q => hi (Or.inr (Or.inl q)), Nat.not_lt.mp fun q => hi (Or.inr (Or.inr (Or.inl q))), Nat.not_lt.mp fun q => hi (Or.inr (Or.inr (Or.inr (Or.inl q)))), Nat.not_lt.mp fun q => hi (Or.inr (Or.inr (Or.inr (Or.inr q)))), rfl⟩
  · cases h
theorem cY_is {E : aEnv} {ah : aHp} {st : List Value} {q : List Value × aHp} (h : cY E ah st = some q) : ∃ n dp d sp s r, st = .int n :: .int dp :: .ref d :: .int sp :: .ref s :: r ∧ ∃ n0 n1, (¬ sp < 0 ∧ ¬ dp < 0 ∧ ¬ n < 0 ∧ sp.toNatClampNeg + n.toNatClampNeg ≤ n0 ∧ dp.toNatClampNeg + n.toNatClampNeg ≤ n1) ∧
    ((∃ f g, hg E ah s = some (.inl (0, n0, .inl f)) ∧ hg E ah d = some (.inl (0, n1, .inl g)) ∧ q = (r, hs E ah d (.inl (0, n1, .inl (va_cpy f g sp.toNatClampNeg dp.toNatClampNeg n.toNatClampNeg))))) ∨
     ∃ f g, hg E ah s = some (.inl (1, n0, .inr (.inl f))) ∧ hg E ah d = some (.inl (1, n1, .inr (.inl g))) ∧ q = (r, hs E ah d (.inl (1, n1, .inr (.inl (va_cpy f g sp.toNatClampNeg dp.toNatClampNeg n.toNatClampNeg)))))) := by
  unfold cY at h; split at h
  · split at h
    · next hq hv =>
      split at h
      · cases h
      · next hi => cases h; exact ⟨_, _, _, _, _, _, rfl, _, _, ⟨fun q => hi (Or.inl q), fun q => hi (Or.inr (Or.inl q)), fun q => hi (Or.inr (Or.inr (Or.inl q))), Nat.not_lt.mp fun q => hi (Or.inr (Or.inr (Or.inr (Or.inl q)))), Nat.not_lt.mp fun q => hi (Or.inr (Or.inr (Or.inr (Or.inr q))))⟩, Or.inl ⟨_, _, hq, hv, rfl⟩⟩
    · next hq hv =>
      split at h
      · cases h
      · next hi => cases h; exact ⟨_, _, _, _, _, _, rfl, _, _, ⟨fun q => hi (Or.inl q), fun q => hi (Or.inr (Or.inl q)), fun q => hi (Or.inr (Or.inr (Or.inl q))), Nat.not_lt.mp fun q => hi (Or.inr (Or.inr (Or.inr (Or.inl q)))), Nat.not_lt.mp fun q => hi (Or.inr (Or.inr (Or.inr (Or.inr q))))⟩, Or.inr ⟨_, _, hq, hv, rfl⟩⟩
    · cases h
  · cases h
theorem oO_is {st st' : List Value} (h : oO st = some st') : ∃ a, st = .ref a :: st' := by
  unfold oO at h; split at h
  · cases h; exact ⟨_, rfl⟩
  · cases h

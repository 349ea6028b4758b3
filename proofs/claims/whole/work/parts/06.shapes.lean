/-! ONE STEP: what the abstract machine does in a step, the real one does -/
theorem sU_is {f : Int32 → Int32} {st st' : List Value} (h : sU f st = some st') : ∃ x r, st = .int x :: r ∧ st' = .int (f x) :: r := by
  unfold sU at h; split at h
  · cases h; exact ⟨_, _, rfl, rfl⟩
  · cases h
theorem sB_is {f : Int32 → Int32 → Int32} {st st' : List Value} (h : sB f st = some st') : ∃ x y r, st = .int y :: .int x :: r ∧ st' = .int (f x y) :: r := by
  unfold sB at h; split at h
  · cases h; exact ⟨_, _, _, rfl, rfl⟩
  · cases h
theorem sD_is {f : Int32 → Int32 → Int32} {st st' : List Value} (h : sD f st = some st') : ∃ x y r, st = .int y :: .int x :: r ∧ ¬ y = 0 ∧ st' = .int (f x y) :: r := by
  unfold sD at h; split at h
  · split at h
    · cases h
    · next hn => cases h; exact ⟨_, _, _, rfl, hn, rfl⟩
  · cases h
theorem tU_is {f : Int64 → Int64} {st st' : List Value} (h : tU f st = some st') : ∃ x r, st = .long x :: r ∧ st' = .long (f x) :: r := by
  unfold tU at h; split at h
  · cases h; exact ⟨_, _, rfl, rfl⟩
  · cases h
theorem tB_is {f : Int64 → Int64 → Int64} {st st' : List Value} (h : tB f st = some st') : ∃ x y r, st = .long y :: .long x :: r ∧ st' = .long (f x y) :: r := by
  unfold tB at h; split at h
  · cases h; exact ⟨_, _, _, rfl, rfl⟩
  · cases h
theorem tD_is {f : Int64 → Int64 → Int64} {st st' : List Value} (h : tD f st = some st') : ∃ x y r, st = .long y :: .long x :: r ∧ ¬ y = 0 ∧ st' = .long (f x y) :: r := by
  unfold tD at h; split at h
  · split at h
    · cases h
    · next hn => cases h; exact ⟨_, _, _, rfl, hn, rfl⟩
  · cases h
theorem sC_is {st st' : List Value} (h : sC st = some st') : ∃ x y r, st = .long y :: .long x :: r ∧ st' = .int (lg_cmp x y) :: r := by
  unfold sC at h; split at h
  · cases h; exact ⟨_, _, _, rfl, rfl⟩
  · cases h
theorem sH_is {f : Int64 → Int32 → Int64} {st st' : List Value} (h : sH f st = some st') : ∃ x y r, st = .int y :: .long x :: r ∧ st' = .long (f x y) :: r := by
  unfold sH at h; split at h
  · cases h; exact ⟨_, _, _, rfl, rfl⟩
  · cases h
theorem sIL_is {st st' : List Value} (h : sIL st = some st') : ∃ x r, st = .int x :: r ∧ st' = .long x.toInt64 :: r := by
  unfold sIL at h; split at h
  · cases h; exact ⟨_, _, rfl, rfl⟩
  · cases h
theorem sLI_is {st st' : List Value} (h : sLI st = some st') : ∃ x r, st = .long x :: r ∧ st' = .int x.toInt32 :: r := by
  unfold sLI at h; split at h
  · cases h; exact ⟨_, _, rfl, rfl⟩
  · cases h
theorem sDup_is {st st' : List Value} (h : sDup st = some st') : ∃ v r, st = v :: r ∧ v.category = 1 ∧ st' = v :: v :: r := by
  unfold sDup at h; split at h
  · split at h
    · next hc => cases h; exact ⟨_, _, rfl, hc, rfl⟩
    · cases h
  · cases h
theorem sPop_is {st st' : List Value} (h : sPop st = some st') : ∃ v, st = v :: st' ∧ v.category = 1 := by
  unfold sPop at h; split at h
  · split at h
    · next hc => cases h; exact ⟨_, rfl, hc⟩
    · cases h
  · cases h
theorem sDup2_is {st st' : List Value} (h : sDup2 st = some st') : (∃ x r, st = .long x :: r ∧ st' = .long x :: .long x :: r) ∨ ∃ v w r, st = v :: w :: r ∧ v.category = 1 ∧ w.category = 1 ∧ st' = v :: w :: v :: w :: r := by
  unfold sDup2 at h; split at h
  · cases h; exact Or.inl ⟨_, _, rfl, rfl⟩
  · split at h
    · next hc => cases h; exact Or.inr ⟨_, _, _, rfl, hc.1, hc.2, rfl⟩
    · cases h
  · cases h
theorem st1_sk {E : aEnv} {I : Instr} {i : Nat} {ls : aLs} {st : List Value} {ah : aHp} {z : Nat × aLs × List Value × aHp} (h : st1 E I i ls st ah = some z) (a : ldA I ls = none) (b : soA I ls st = none) (c : jpA I i st = none) (d : hrA E I st ah = none) (e : hwA E I st ah = none) : ∃ st', skA I st = some st' ∧ z = (i, ls, st', ah) := by
  unfold st1 at h
  rw [a, b, c, d, e] at h
  cases hk : skA I st with
  | none => rw [hk] at h; cases h
  | some st' => rw [hk] at h; cases h; exact ⟨_, rfl, rfl⟩
theorem st1_ld {E : aEnv} {I : Instr} {i : Nat} {ls : aLs} {st : List Value} {ah : aHp} {z : Nat × aLs × List Value × aHp} (h : st1 E I i ls st ah = some z) (a : skA I st = none) (b : soA I ls st = none) (c : jpA I i st = none) (d : hrA E I st ah = none) (e : hwA E I st ah = none) : ∃ v, ldA I ls = some v ∧ z = (i, ls, v :: st, ah) := by
  unfold st1 at h
  rw [a, b, c, d, e] at h
  cases hk : ldA I ls with
  | none => rw [hk] at h; cases h
  | some st' => rw [hk] at h; cases h; exact ⟨_, rfl, rfl⟩
theorem st1_so {E : aEnv} {I : Instr} {i : Nat} {ls : aLs} {st : List Value} {ah : aHp} {z : Nat × aLs × List Value × aHp} (h : st1 E I i ls st ah = some z) (a : skA I st = none) (b : ldA I ls = none) (c : jpA I i st = none) (d : hrA E I st ah = none) (e : hwA E I st ah = none) : ∃ q, soA I ls st = some q ∧ z = (i, q.1, q.2, ah) := by
  unfold st1 at h
  rw [a, b, c, d, e] at h
  cases hk : soA I ls st with
  | none => rw [hk] at h; cases h
  | some st' => rw [hk] at h; cases h; exact ⟨_, rfl, rfl⟩
theorem st1_jp {E : aEnv} {I : Instr} {i : Nat} {ls : aLs} {st : List Value} {ah : aHp} {z : Nat × aLs × List Value × aHp} (h : st1 E I i ls st ah = some z) (a : skA I st = none) (b : ldA I ls = none) (c : soA I ls st = none) (d : hrA E I st ah = none) (e : hwA E I st ah = none) : ∃ q, jpA I i st = some q ∧ z = (q.1, ls, q.2, ah) := by
  unfold st1 at h
  rw [a, b, c, d, e] at h
  cases hk : jpA I i st with
  | none => rw [hk] at h; cases h
  | some st' => rw [hk] at h; cases h; exact ⟨_, rfl, rfl⟩
theorem st1_hr {E : aEnv} {I : Instr} {i : Nat} {ls : aLs} {st : List Value} {ah : aHp} {z : Nat × aLs × List Value × aHp} (h : st1 E I i ls st ah = some z) (a : skA I st = none) (b : ldA I ls = none) (c : soA I ls st = none) (d : jpA I i st = none) (e : hwA E I st ah = none) : ∃ st', hrA E I st ah = some st' ∧ z = (i, ls, st', ah) := by
  unfold st1 at h
  rw [a, b, c, d, e] at h
  cases hk : hrA E I st ah with
  | none => rw [hk] at h; cases h
  | some st' => rw [hk] at h; cases h; exact ⟨_, rfl, rfl⟩
theorem st1_hw {E : aEnv} {I : Instr} {i : Nat} {ls : aLs} {st : List Value} {ah : aHp} {z : Nat × aLs × List Value × aHp} (h : st1 E I i ls st ah = some z) (a : skA I st = none) (b : ldA I ls = none) (c : soA I ls st = none) (d : jpA I i st = none) (e : hrA E I st ah = none) : ∃ q, hwA E I st ah = some q ∧ z = (i, ls, q.1, q.2) := by
  unfold st1 at h
  rw [a, b, c, d, e] at h
  cases hk : hwA E I st ah with
  | none => rw [hk] at h; cases h
  | some st' => rw [hk] at h; cases h; exact ⟨_, rfl, rfl⟩
theorem lI_is {ls : aLs} {j : Nat} {v : Value} (h : lI ls j = some v) : ∃ x, v = .int x ∧ ls[j]? = some (some (.int x)) := by
  unfold lI at h; split at h
  · next hx => cases h; exact ⟨_, rfl, hx⟩
  · cases h
theorem lL_is {ls : aLs} {j : Nat} {v : Value} (h : lL ls j = some v) : ∃ x, v = .long x ∧ ls[j]? = some (some (.long x)) := by
  unfold lL at h; split at h
  · next hx => cases h; exact ⟨_, rfl, hx⟩
  · cases h
theorem lA_is {ls : aLs} {j : Nat} {v : Value} (h : lA ls j = some v) : (∃ a, v = .ref a ∧ ls[j]? = some (some (.ref a))) ∨ (v = .null ∧ ls[j]? = some (some .null)) := by
  unfold lA at h; split at h
  · next hx => cases h; exact Or.inl ⟨_, rfl, hx⟩
  · next hx => cases h; exact Or.inr ⟨rfl, hx⟩
  · cases h
theorem oI_is {ls : aLs} {j : Nat} {st : List Value} {q : aLs × List Value} (h : oI ls j st = some q) : ∃ x r, st = .int x :: r ∧ j < ls.length ∧ q = (stl ls j (.int x), r) := by
  unfold oI at h; split at h
  · split at h
    · next hj => cases h; exact ⟨_, _, rfl, hj, rfl⟩
    · cases h
  · cases h
theorem oL_is {ls : aLs} {j : Nat} {st : List Value} {q : aLs × List Value} (h : oL ls j st = some q) : ∃ x r, st = .long x :: r ∧ j + 1 < ls.length ∧ q = (stl2 ls j (.long x), r) := by
  unfold oL at h; split at h
  · split at h
    · next hj => cases h; exact ⟨_, _, rfl, hj, rfl⟩
    · cases h
  · cases h
theorem oA_is {ls : aLs} {j : Nat} {st : List Value} {q : aLs × List Value} (h : oA ls j st = some q) : j < ls.length ∧ ((∃ x r, st = .ref x :: r ∧ q = (stl ls j (.ref x), r)) ∨ ∃ r, st = .null :: r ∧ q = (stl ls j .null, r)) := by
  unfold oA at h; split at h
  · split at h
    · next hj => cases h; exact ⟨hj, Or.inl ⟨_, _, rfl, rfl⟩⟩
    · cases h
  · split at h
    · next hj => cases h; exact ⟨hj, Or.inr ⟨_, rfl, rfl⟩⟩
    · cases h
  · cases h
theorem oC_is {ls : aLs} {j : Nat} {n : Int} {st : List Value} {q : aLs × List Value} (h : oC ls j n st = some q) : ∃ x, ls[j]? = some (some (.int x)) ∧ q = (stl ls j (.int (x + Int32.ofInt n)), st) := by
  unfold oC at h; split at h
  · next hx => cases h; exact ⟨_, hx, rfl⟩
  · cases h
theorem j1_is {p : Int32 → Prop} [∀ x, Decidable (p x)] {i t : Nat} {st : List Value} {q : Nat × List Value} (h : j1 p i t st = some q) : ∃ x r, st = .int x :: r ∧ q = (if p x then t else i, r) := by
  unfold j1 at h; split at h
  · cases h; exact ⟨_, _, rfl, rfl⟩
  · cases h
theorem j2_is {p : Int32 → Int32 → Prop} [∀ x y, Decidable (p x y)] {i t : Nat} {st : List Value} {q : Nat × List Value} (h : j2 p i t st = some q) : ∃ x y r, st = .int y :: .int x :: r ∧ q = (if p x y then t else i, r) := by
  unfold j2 at h; split at h
  · cases h; exact ⟨_, _, _, rfl, rfl⟩
  · cases h
theorem jN_is {i t : Nat} {st : List Value} {q : Nat × List Value} (h : jN i t st = some q) : (∃ x r, st = .ref x :: r ∧ q = (i, r)) ∨ ∃ r, st = .null :: r ∧ q = (t, r) := by
  unfold jN at h; split at h
  · cases h; exact Or.inl ⟨_, _, rfl, rfl⟩
  · cases h; exact Or.inr ⟨_, rfl, rfl⟩
  · cases h
theorem jT_is {d lo hi : Int} {offs : Array Int} {st : List Value} {q : Nat × List Value} (h : jT d lo hi offs st = some q) : ∃ x r, st = .int x :: r ∧ (((x.toInt < lo ∨ hi < x.toInt) ∧ q = (d.toNat, r)) ∨ (¬ (x.toInt < lo ∨ hi < x.toInt) ∧ ∃ o, offs[(x.toInt - lo).toNat]? = some o ∧ q = (o.toNat, r))) := by
  unfold jT at h; split at h
  · split at h
    · next hc => cases h; exact ⟨_, _, rfl, Or.inl ⟨hc, rfl⟩⟩
    · next hc =>
      split at h
      · next ho => cases h; exact ⟨_, _, rfl, Or.inr ⟨hc, _, ho, rfl⟩⟩
      · cases h
  · cases h
theorem ap_is {pc : Nat} {o t : Int} (h : ap pc o = some t) : (pc : Int) + o = ((t.toNat : Nat) : Int) := by
  unfold ap at h; split at h
  · next h0 => cases h; omega
  · cases h

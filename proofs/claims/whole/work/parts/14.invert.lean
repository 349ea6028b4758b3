/-! what stands in the code where the abstract machine calls, returns, or does what is no method of the tables -/
theorem ins_raw {k pc npc : Nat} {I : Instr} (hi : insAt k pc = some (I, npc)) : ∃ raw n, decode (mrow k).2.1 pc = .ok (raw, n) ∧ (n = lnI raw ∨ lnI raw = 0) ∧ rsv k pc raw = some I ∧ npc = pc + n := by
  unfold insAt at hi
  split at hi
  · next raw n hd =>
    split at hi
    · next hl =>
      obtain ⟨I', hr, he⟩ := Option.map_eq_some_iff.mp hi
      cases he
      exact ⟨raw, n, hd, hl, hr, rfl⟩
    · cases hi
  · cases hi
/-- an instruction that is no call, no return and none of ours stays of its kind -/
theorem rsv_call {k pc : Nat} {raw I : Instr} (hr : rsv k pc raw = some I) {n h : Nat} (hc : clA I = some (n, h)) : ∃ x q, lk MLs (mrow k).2.2.2.2.2 x = some q ∧ q.1 = n ∧ mkd n = h ∧ ((raw = .invokestatic x ∧ h = 0) ∨ (raw = .invokevirtual x ∧ h = 1) ∨ (raw = .invokespecial x ∧ h = 2)) := by
  unfold rsv at hr
  split at hr
  all_goals first
    | (cases hr; done)
    | (cases hr; cases hc; done)
    | (obtain ⟨_, _, he⟩ := Option.map_eq_some_iff.mp hr; cases he; cases hc; done)
    | skip
  · split at hr
    · cases hr; cases hc
    · split at hr <;> cases hr
      cases hc
  · split at hr
    · cases hr; cases hc
    · cases hr
  · split at hr
    · split at hr
      · cases hr; cases hc
      · cases hr
    · cases hr
  · split at hr <;> cases hr <;> cases hc
  · split at hr <;> cases hr
    cases hc
  · split at hr
    · cases hr; cases hc
    · cases hr
    · split at hr
      · next q hq =>
        split at hr
        · next hm => cases hr; cases hc; exact ⟨_, q, hq, rfl, hm, Or.inl ⟨rfl, rfl⟩⟩
        · cases hr
      · cases hr
  · split at hr
    · cases hr; cases hc
    · cases hr; cases hc
    · cases hr
    · split at hr
      · next q hq =>
        split at hr
        · next hm => cases hr; cases hc; exact ⟨_, q, hq, rfl, hm, Or.inr (Or.inl ⟨rfl, rfl⟩)⟩
        · cases hr
      · cases hr
  · split at hr
    · cases hr; cases hc
    · cases hr
    · split at hr
      · next q hq =>
        split at hr
        · next hm => cases hr; cases hc; exact ⟨_, q, hq, rfl, hm, Or.inr (Or.inr ⟨rfl, rfl⟩)⟩
        · cases hr
      · cases hr
  · split at hr
    · cases hr; cases hc
    · split at hr <;> cases hr
      cases hc
  · split at hr <;> cases hr
    cases hc
  · split at hr <;> cases hr <;> cases hc
  · split at hr <;> cases hr
    cases hc
theorem rsv_xt {k pc : Nat} {raw I : Instr} (hr : rsv k pc raw = some I) {j : Nat} (hc : I = .ldc_w j) : ∃ x, lk XLs (mrow k).2.2.2.2.2 x = some j ∧ ((raw = .invokestatic x ∧ j = 2) ∨ (raw = .invokevirtual x ∧ (j = 0 ∨ j = 1)) ∨ (raw = .invokespecial x ∧ j = 4)) := by
  unfold rsv at hr
  split at hr
  all_goals first
    | (cases hr; done)
    | (cases hr; cases hc; done)
    | (obtain ⟨_, _, he⟩ := Option.map_eq_some_iff.mp hr; cases he; cases hc; done)
    | skip
  · split at hr
    · cases hr; cases hc
    · split at hr <;> cases hr
      cases hc
  · split at hr
    · cases hr; cases hc
    · cases hr
  · split at hr
    · split at hr
      · cases hr; cases hc
      · cases hr
    · cases hr
  · split at hr <;> cases hr <;> cases hc
  · split at hr <;> cases hr
    cases hc
  · split at hr
    · next hq => cases hr; cases hc; exact ⟨_, hq, Or.inl ⟨rfl, rfl⟩⟩
    · cases hr
    · split at hr
      · split at hr
        · cases hr; cases hc
        · cases hr
      · cases hr
  · split at hr
    · next hq => cases hr; cases hc; exact ⟨_, hq, Or.inr (Or.inl ⟨rfl, Or.inl rfl⟩)⟩
    · next hq => cases hr; cases hc; exact ⟨_, hq, Or.inr (Or.inl ⟨rfl, Or.inr rfl⟩)⟩
    · cases hr
    · split at hr
      · split at hr
        · cases hr; cases hc
        · cases hr
      · cases hr
  · split at hr
    · next hq => cases hr; cases hc; exact ⟨_, hq, Or.inr (Or.inr ⟨rfl, rfl⟩)⟩
    · cases hr
    · split at hr
      · split at hr
        · cases hr; cases hc
        · cases hr
      · cases hr
  · split at hr
    · cases hr; cases hc
    · split at hr <;> cases hr
      cases hc
  · split at hr <;> cases hr
    cases hc
  · split at hr <;> cases hr <;> cases hc
  · split at hr <;> cases hr
    cases hc
theorem rsv_ret {k pc : Nat} {raw I : Instr} (hr : rsv k pc raw = some I) {st : List Value} {r : Option Value} (hc : rtA I st = some r) : (raw = .ireturn ∧ (mrow k).2.2.2.1 = some .int ∧ ∃ x, st = [.int x] ∧ r = some (.int x)) ∨ (raw = .ireturn ∧ (mrow k).2.2.2.1 = some .boolean ∧ ∃ x, st = [.int x] ∧ (x = 0 ∨ x = 1) ∧ r = some (.int x)) ∨ (raw = .lreturn ∧ (mrow k).2.2.2.1 = some .long ∧ ∃ x, st = [.long x] ∧ r = some (.long x)) ∨
    (raw = .areturn ∧ (∃ rt, (mrow k).2.2.2.1 = some rt ∧ ((∃ n, rt = .object n) ∨ ∃ t, rt = .array t)) ∧ ∃ v, st = [v] ∧ (v = .null ∨ ∃ a, v = .ref a) ∧ r = some v) ∨ (raw = .return_ ∧ (mrow k).2.2.2.1 = none ∧ st = [] ∧ r = none) := by
  unfold rsv at hr
  split at hr
  all_goals first
    | (cases hr; done)
    | (cases hr; cases hc; done)
    | (obtain ⟨_, _, he⟩ := Option.map_eq_some_iff.mp hr; cases he; cases hc; done)
    | skip
  · split at hr
    · cases hr; cases hc
    · split at hr <;> cases hr
      cases hc
  · split at hr
    · cases hr; cases hc
    · cases hr
  · split at hr
    · split at hr
      · cases hr; cases hc
      · cases hr
    · cases hr
  · split at hr <;> cases hr <;> cases hc
  · split at hr <;> cases hr
    cases hc
  · split at hr
    · cases hr; cases hc
    · cases hr
    · split at hr
      · split at hr
        · cases hr; cases hc
        · cases hr
      · cases hr
  · split at hr
    · cases hr; cases hc
    · cases hr; cases hc
    · cases hr
    · split at hr
      · split at hr
        · cases hr; cases hc
        · cases hr
      · cases hr
  · split at hr
    · cases hr; cases hc
    · cases hr
    · split at hr
      · split at hr
        · cases hr; cases hc
        · cases hr
      · cases hr
  · split at hr
    · next hq =>
      cases hr
      unfold rtA at hc
      split at hc <;> rename_i hI <;> first | cases hI | skip
      · cases hc; exact Or.inl ⟨rfl, hq, _, rfl, rfl⟩
      · cases hc
    · split at hr
      · next hq =>
        cases hr
        unfold rtA at hc
        split at hc <;> rename_i hI <;> first | cases hI | skip
        · split at hc
          · next hx => cases hc; exact Or.inr (Or.inl ⟨rfl, hq, _, rfl, hx, rfl⟩)
          · cases hc
        · cases hc
      · cases hr
  · split at hr
    · next hq =>
      cases hr
      unfold rtA at hc
      split at hc <;> rename_i hI <;> first | cases hI | skip
      · cases hc; exact Or.inr (Or.inr (Or.inl ⟨rfl, hq, _, rfl, rfl⟩))
      · cases hc
    · cases hr
  · have hA : I = .areturn → ∃ v, st = [v] ∧ (v = .null ∨ ∃ a, v = .ref a) ∧ r = some v := by
      intro h3
      subst h3
      unfold rtA at hc
      split at hc <;> rename_i hI <;> first | cases hI | skip
      · cases hc; exact ⟨_, rfl, Or.inr ⟨_, rfl⟩, rfl⟩
      · cases hc; exact ⟨_, rfl, Or.inl rfl, rfl⟩
      · cases hc
    split at hr
    · next hq => cases hr; exact Or.inr (Or.inr (Or.inr (Or.inl ⟨rfl, ⟨_, hq, Or.inl ⟨_, rfl⟩⟩, hA rfl⟩)))
    · next hq => cases hr; exact Or.inr (Or.inr (Or.inr (Or.inl ⟨rfl, ⟨_, hq, Or.inr ⟨_, rfl⟩⟩, hA rfl⟩)))
    · cases hr
  · split at hr
    · next hq =>
      cases hr
      unfold rtA at hc
      split at hc <;> rename_i hI <;> first | cases hI | skip
      · cases hc; exact Or.inr (Or.inr (Or.inr (Or.inr ⟨rfl, hq, rfl, rfl⟩)))
      · cases hc
    · cases hr

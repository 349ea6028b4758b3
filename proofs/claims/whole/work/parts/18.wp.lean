/-! RUNS, AS A CALCULUS: WP says that the run comes to its end with Q; EV of a whole method -/
theorem rn_mono {E : aEnv} : ∀ (f c k pc : Nat) (ls : aLs) (st : List Value) (ah : aHp) (z : Option Value × aHp), rn E f c k pc ls st ah = some z → rn E (f + 1) c k pc ls st ah = some z
  | 0, _, _, _, _, _, _, _, h => by simp [rn] at h
  | f + 1, c, k, pc, ls, st, ah, z, h => by
    unfold rn at h ⊢
    split at h
    · cases h
    · next J hJ =>
      split at h
      · next hr => exact h
      · next hr =>
        split at h
        · next q hq =>
          split at h
          · cases h
          · next c' =>
            split at h
            · next hc =>
              split at h
              · cases h
              · next y hy =>
                rw [if_pos hc, rn_mono f _ _ _ _ _ _ _ hy]
                exact rn_mono f _ _ _ _ _ _ _ h
            · cases h
        · next hq =>
          split at h
          · next y hy =>
            split at h
            · cases h
            · next hc =>
              rw [if_neg hc]
              exact rn_mono f _ _ _ _ _ _ _ h
          · next hy =>
            split at h
            · cases h
            · next y hz =>
              exact rn_mono f _ _ _ _ _ _ _ h
theorem rn_le {E : aEnv} {f g c k pc : Nat} {ls : aLs} {st : List Value} {ah : aHp} {z : Option Value × aHp} (h : rn E f c k pc ls st ah = some z) (hg : f ≤ g) : rn E g c k pc ls st ah = some z := by
  induction hg with
  | refl => exact h
  | step _ ih => exact rn_mono _ _ _ _ _ _ _ _ ih
noncomputable def WP (E : aEnv) (c k pc : Nat) (ls : aLs) (st : List Value) (ah : aHp) (Q : Option Value → aHp → Prop) : Prop := ∃ f r ahF, rn E f c k pc ls st ah = some (r, ahF) ∧ Q r ahF
/-- a method's run: depth, method, values, heap; then what it gives -/
noncomputable def EV (E : aEnv) (c n : Nat) (As : List Value) (ah : aHp) (r : Option Value) (ahF : aHp) : Prop := ∃ f, rn E f c n 0 (entL (mrow n).2.2.1 As) [] ah = some (r, ahF)
theorem EV.of {E : aEnv} {c n : Nat} {As : List Value} {ah : aHp} {r : Option Value} {ahF : aHp} (h : WP E c n 0 (entL (mrow n).2.2.1 As) [] ah (fun r1 a1 => r1 = r ∧ a1 = ahF)) : EV E c n As ah r ahF := by
  obtain ⟨f, r1, a1, h1, rfl, rfl⟩ := h
  exact ⟨f, h1⟩
theorem WP.mono {E : aEnv} {c k pc : Nat} {ls : aLs} {st : List Value} {ah : aHp} {Q Q' : Option Value → aHp → Prop} (h : WP E c k pc ls st ah Q) (hq : ∀ r a, Q r a → Q' r a) : WP E c k pc ls st ah Q' := by
  obtain ⟨f, r, a, h1, h2⟩ := h
  exact ⟨f, r, a, h1, hq r a h2⟩
section WPS
variable {E : aEnv} {c k pc npc : Nat} {ls : aLs} {st : List Value} {ah : aHp} {Q : Option Value → aHp → Prop} {I : Instr}
/-- an ordinary step -/
theorem wp_st {z : Nat × aLs × List Value × aHp} (hi : insAt k pc = some (I, npc)) (h1 : rtA I st = none) (h2 : clA I = none) (h3 : xtA E I st ah = none) (h4 : st1 E I npc ls st ah = some z) : WP E c k pc ls st ah Q = WP E c k z.1 z.2.1 z.2.2.1 z.2.2.2 Q := by
  have e1 : ∀ f, rn E (f + 1) c k pc ls st ah = rn E f c k z.1 z.2.1 z.2.2.1 z.2.2.2 := fun f => by
    rw [rn]
    simp only [hi, h1, h2, h3, h4]
  apply propext
  constructor
  · rintro ⟨f, r, a, h, hq⟩
    cases f with
    | zero => simp [rn] at h
    | succ f => exact ⟨f, r, a, by rw [← e1]; exact h, hq⟩
  · rintro ⟨f, r, a, h, hq⟩
    exact ⟨f + 1, r, a, by rw [e1]; exact h, hq⟩
theorem wp_rt {r : Option Value} (hi : insAt k pc = some (I, npc)) (h1 : rtA I st = some r) : WP E c k pc ls st ah Q = Q r ah := by
  have e1 : ∀ f, rn E (f + 1) c k pc ls st ah = some (r, ah) := fun f => by
    rw [rn]
    simp only [hi, h1]
  apply propext
  constructor
  · rintro ⟨f, r, a, h, hq⟩
    cases f with
    | zero => simp [rn] at h
    | succ f => rw [e1] at h; cases h; exact hq
  · intro h
    exact ⟨1, r, ah, e1 0, h⟩
theorem wp_xt {q : List Value × aHp} (hi : insAt k pc = some (I, npc)) (h1 : rtA I st = none) (h2 : clA I = none) (h3 : xtA E I st ah = some q) (h4 : dpt I ≤ c) (h5 : wds q.1 ≤ 8) : WP E c k pc ls st ah Q = WP E c k npc ls q.1 q.2 Q := by
  have e1 : ∀ f, rn E (f + 1) c k pc ls st ah = rn E f c k npc ls q.1 q.2 := fun f => by
    rw [rn]
    simp only [hi, h1, h2, h3]
    rw [if_neg (by omega)]
  apply propext
  constructor
  · rintro ⟨f, r, a, h, hq⟩
    cases f with
    | zero => simp [rn] at h
    | succ f => exact ⟨f, r, a, by rw [← e1]; exact h, hq⟩
  · rintro ⟨f, r, a, h, hq⟩
    exact ⟨f + 1, r, a, by rw [e1]; exact h, hq⟩
/-- a call: by what is known of the callee -/
theorem wp_cl {n h : Nat} {r : Option Value} {ah1 : aHp} (hi : insAt k pc = some (I, npc)) (h1 : rtA I st = none) (h2 : clA I = some (n, h)) (h3 : cok E ah n h st = true) (h4 : EV E c n (st.take (mrow n).2.2.2.2.1).reverse ah r ah1) (kk : WP E (c + 1) k npc ls (r.toList ++ st.drop (mrow n).2.2.2.2.1) ah1 Q) : WP E (c + 1) k pc ls st ah Q := by
  obtain ⟨f, hf⟩ := h4
  obtain ⟨g, r2, a2, hg, hq⟩ := kk
  refine ⟨max f g + 1, r2, a2, ?_, hq⟩
  rw [rn]
  simp only [hi, h1, h2, h3, if_true, rn_le hf (Nat.le_max_left f g)]
  exact rn_le hg (Nat.le_max_right f g)
end WPS
/-- more depth does no harm -/
theorem rn_deep {E : aEnv} : ∀ (f c k pc : Nat) (ls : aLs) (st : List Value) (ah : aHp) (z : Option Value × aHp), rn E f c k pc ls st ah = some z → rn E f (c + 1) k pc ls st ah = some z
  | 0, _, _, _, _, _, _, _, h => by simp [rn] at h
  | f + 1, c, k, pc, ls, st, ah, z, h => by
    unfold rn at h ⊢
    split at h
    · cases h
    · next J hJ =>
      split at h
      · next hr => exact h
      · next hr =>
        split at h
        · next q hq =>
          split at h
          · cases h
          · next c' =>
            split at h
            · next hc =>
              split at h
              · cases h
              · next y hy =>
                simp only [hc, if_true]
                rw [rn_deep f _ _ _ _ _ _ _ hy]
                exact rn_deep f _ _ _ _ _ _ _ h
            · cases h
        · next hq =>
          split at h
          · next y hy =>
            split at h
            · cases h
            · next hc =>
              rw [if_neg (by omega)]
              exact rn_deep f _ _ _ _ _ _ _ h
          · next hy =>
            split at h
            · cases h
            · next y hz =>
              exact rn_deep f _ _ _ _ _ _ _ h
theorem EV.deep {E : aEnv} {c c' n : Nat} {As : List Value} {ah : aHp} {r : Option Value} {ahF : aHp} (h : EV E c n As ah r ahF) (hc : c ≤ c') : EV E c' n As ah r ahF := by
  obtain ⟨f, hf⟩ := h
  refine ⟨f, ?_⟩
  induction hc with
  | refl => exact hf
  | step _ ih => exact rn_deep _ _ _ _ _ _ _ _ ih

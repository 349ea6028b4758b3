/-! a call by its values -/
noncomputable def oCI (o : Option aE) : Nat := match o with
  | some (.inr q) => q.1
  | _ => 99
theorem wp_call {E : aEnv} {c k pc npc : Nat} {ls : aLs} {ah ah1 : aHp} {Q : Option Value → aHp → Prop} {I : Instr} {n h : Nat} {As st : List Value} {r : Option Value} (hi : insAt k pc = some (I, npc)) (hr : ∀ s, rtA I s = none) (hc : clA I = some (n, h)) (hna : (mrow n).2.2.2.2.1 = As.length) (hrc : rcv E ah n h As = true) (hw : wds st ≤ 8) (hex : (exL As).length ≤ (mrow n).2.2.1) (hE : EV E c n As ah r ah1) :
    WP E (c + 1) k pc ls (As.reverse ++ st) ah Q = WP E (c + 1) k npc ls (r.toList ++ st) ah1 Q := by
  have h1 : (As.reverse ++ st).take (mrow n).2.2.2.2.1 = As.reverse := by rw [hna, ← List.length_reverse, List.take_left']; rfl
  have h2 : (As.reverse ++ st).drop (mrow n).2.2.2.2.1 = st := by rw [hna, ← List.length_reverse, List.drop_left']; rfl
  have h3 : cok E ah n h (As.reverse ++ st) = true := by
    simp only [cok, h1, h2, List.reverse_reverse, hrc, Bool.and_eq_true, decide_eq_true_eq]
    refine ⟨⟨?_, trivial⟩, hw, hex⟩
    rw [hna]
    simp
  have h4 := wp_ce (Q := Q) (ls := ls) hi (hr _) hc h3 (r := r) (ah1 := ah1) (by rw [h1, List.reverse_reverse]; exact hE)
  rw [h2] at h4
  exact h4
theorem rcv_1 {E : aEnv} {ah : aHp} {n a ci : Nat} {As : List Value} (h : oCI (hg E ah a) = ci) (hc : (mrow n).2.2.2.2.2 = ci) (h9 : ci ≠ 99) : rcv E ah n 1 (.ref a :: As) = true := by
  unfold rcv oCI at *
  cases hx : hg E ah a with
  | none => rw [hx] at h; exact absurd h.symm h9
  | some e =>
    cases e with
    | inl _ => rw [hx] at h; exact absurd h.symm h9
    | inr q =>
      rw [hx] at h
      simp [hx, hc, ← h]
theorem wds_nil : wds [] ≤ 8 := by decide
section WS
variable {E : aEnv} {c k pc npc : Nat} {ls : aLs} {st : List Value} {ah : aHp} {Q : Option Value → aHp → Prop} {I : Instr}
theorem wp_s {pc' : Nat} {ls' : aLs} {st' : List Value} {ah' : aHp} (hi : insAt k pc = some (I, npc)) (h1 : rtA I st = none) (h2 : clA I = none) (h3 : xtA E I st ah = none) (h4 : st1 E I npc ls st ah = some (pc', ls', st', ah')) : WP E c k pc ls st ah Q = WP E c k pc' ls' st' ah' Q := wp_st hi h1 h2 h3 h4
theorem wp_j {p : Prop} [Decidable p] {t f : Nat} {ls' : aLs} {st' : List Value} {ah' : aHp} (hi : insAt k pc = some (I, npc)) (h1 : rtA I st = none) (h2 : clA I = none) (h3 : xtA E I st ah = none) (h4 : st1 E I npc ls st ah = some (if p then t else f, ls', st', ah')) : WP E c k pc ls st ah Q = if p then WP E c k t ls' st' ah' Q else WP E c k f ls' st' ah' Q := (wp_st hi h1 h2 h3 h4).trans wp_if
end WS

/-! Both at once: the class' cells and the model's, apart -/
/-- the cells of the class and of the model are apart -/
noncomputable def APT (A : Nat → Nat) (m : Nat) (ma : Nat → Nat) : Prop := ∀ k, A k ≠ m ∧ ∀ j, j < 99 → mtg j < 4 → A k ≠ ma j
section BOTH
variable {E : aEnv} {B : aHp} {A : Nat → Nat} {S : Nat → aE} {m : Nat} {ma : Nat → Nat} {v : Nat → Value} {ai : Nat → Nat → Int32} {al : Nat → Nat → Int64}
theorem mca_A (hp : APT A m ma) {k : Nat} {e : aE} : mca m ma v ai al (A k) e = e := by
  have h1 := (hp k).1
  have hf : mfd ma (A k) = none := by
    unfold mfd
    rw [List.find?_eq_none]
    intro j hj
    simp only [Bool.and_eq_true, decide_eq_true_eq, beq_iff_eq, not_and]
    intro ht z
    exact (hp k).2 j (List.mem_range.mp hj) ht z.symm
  unfold mca
  rw [if_neg h1, hf]
theorem oh_mh (hA : ∀ j k, A j = A k → j = k) (hp : APT A m ma) : oh E (mh E B m ma v ai al) A S = mh E (oh E B A S) m ma v ai al := by
  apply hp_ext (E := E)
  · rw [oh_len, mh_len, mh_len, oh_len]
  · intro q hq
    rw [oh_hg, mh_hg, mh_hg, oh_hg, Option.map_map, Option.map_map]
    congr 1
    funext e
    show oca A S q (mca m ma v ai al q e) = mca m ma v ai al q (oca A S q e)
    by_cases z : ∃ k, A k = q
    · obtain ⟨k, rfl⟩ := z
      rw [oca_k hA, oca_k hA, mca_A hp]
    · have z' : ∀ k, A k ≠ q := fun k w => z ⟨k, w⟩
      rw [oca_n z', oca_n z']
theorem MO_oh (h : MO E B m ma) : MO E (oh E B A S) m ma := by
  obtain ⟨⟨e, he⟩, h2, h3⟩ := h
  refine ⟨⟨_, by rw [oh_hg, he]; rfl⟩, fun k hk ht => ?_, h3⟩
  obtain ⟨⟨e, he⟩, hn⟩ := h2 k hk ht
  exact ⟨⟨_, by rw [oh_hg, he]; rfl⟩, hn⟩
theorem mh_ex {q : Nat} (h : ∃ e, hg E B q = some e) : ∃ e, hg E (mh E B m ma v ai al) q = some e := by
  obtain ⟨e, he⟩ := h
  exact ⟨_, by rw [mh_hg, he]; rfl⟩
theorem NW_mh {K : Nat} (h : NW E B A K) : NW E (mh E B m ma v ai al) A K := ⟨h.1, fun k hk => mh_ex (h.2.1 k hk), by rw [mh_len]; exact h.2.2.1, by rw [mh_len]; exact h.2.2.2⟩
theorem XN_mh {en : Nat} (h : XN E B A en) : XN E (mh E B m ma v ai al) A en := ⟨h.1, fun k hk => mh_ex (h.2 k hk)⟩
theorem hg_ap2 {C : aHp} {q : Nat} : hg E (B ++ C) q = if q < E.1 + B.length then hg E B q else if E.1 ≤ q then C[q - E.1 - B.length]? else none := by
  unfold hg
  by_cases z : E.1 ≤ q
  · by_cases y : q < E.1 + B.length
    · rw [if_pos z, if_pos y, if_pos z, List.getElem?_append_left (by omega)]
    · rw [if_pos z, if_neg y, if_pos z, List.getElem?_append_right (by omega)]
  · rw [if_neg z, if_pos (by omega), if_neg z]
theorem mh_app {K n : Nat} (hW : NW E B A K) (hp : APT A m ma) : mh E B m ma v ai al ++ dR n = mh E (B ++ dR n) m ma v ai al := by
  apply hp_ext (E := E)
  · rw [List.length_append, mh_len, mh_len, List.length_append]
  · intro q hq
    rw [hg_ap2, mh_len, mh_hg, mh_hg, hg_ap2]
    by_cases y : q < E.1 + B.length
    · rw [if_pos y, if_pos y]
    · rw [if_neg y, if_neg y, if_pos hq]
      have e : q = A (K + (q - E.1 - B.length)) := by rw [hW.2.2.1]; omega
      rw [e]
      cases hx : (dR n)[A (K + (q - E.1 - B.length)) - E.1 - B.length]? with
      | none => rfl
      | some x => rw [Option.map_some, mca_A hp]
theorem MO_app {C : aHp} (h : MO E B m ma) : MO E (B ++ C) m ma := by
  have ex : ∀ q, (∃ e, hg E B q = some e) → ∃ e, hg E (B ++ C) q = some e := by
    rintro q ⟨e, he⟩
    refine ⟨e, ?_⟩
    rw [hg_ap2, if_pos, he]
    unfold hg at he
    split at he
    · next hz =>
      obtain ⟨w, -⟩ := List.getElem?_eq_some_iff.mp he
      omega
    · exact nomatch he
  obtain ⟨h1, h2, h3⟩ := h
  exact ⟨ex _ h1, fun k hk ht => ⟨ex _ (h2 k hk ht).1, (h2 k hk ht).2⟩, h3⟩
theorem NW_app {K n : Nat} (h : NW E B A K) (hl : B.length + n + 11 < 1000) : NW E (B ++ dR n) A (K + n) := by
  refine ⟨h.1, fun k hk => h.g hk, fun q => ?_, ?_⟩
  · rw [Nat.add_assoc, h.2.2.1, List.length_append]
    unfold dR
    rw [List.length_replicate]
    omega
  · rw [List.length_append]
    unfold dR
    rw [List.length_replicate]
    omega
end BOTH

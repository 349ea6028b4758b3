/-! New cells behind the others: the engine's constructor -/
noncomputable def dR (n : Nat) : aHp := List.replicate n (.inr (0, []))
noncomputable def pS (S : Nat → aE) (K n : Nat) (obj : aE) (f : Nat → aE) : Nat → aE := fun k => if k = K then obj else if K < k ∧ k < K + n then f (k - K) else S k
theorem pS_K {S : Nat → aE} {K n : Nat} {obj : aE} {f : Nat → aE} : pS S K n obj f K = obj := if_pos rfl
theorem su_pS {S : Nat → aE} {K n : Nat} {obj obj' : aE} {f : Nat → aE} : su (pS S K n obj f) K obj' = pS S K n obj' f := by
  funext k
  unfold su pS
  split
  · rfl
  · rfl
theorem su_pS_n {S : Nat → aE} {K n : Nat} {obj e : aE} {f : Nat → aE} (hn : 1 ≤ n) (he : e = f n) : su (pS S K n obj f) (K + n) e = pS S K (n + 1) obj f := by
  funext k
  unfold su pS
  by_cases h1 : k = K + n
  · rw [if_pos h1, if_neg (by omega), if_pos (by omega), h1, Nat.add_sub_cancel_left, he]
  · rw [if_neg h1]
    by_cases h2 : k = K
    · rw [if_pos h2, if_pos h2]
    · rw [if_neg h2, if_neg h2]
      by_cases h3 : K < k ∧ k < K + n
      · rw [if_pos h3, if_pos (by omega)]
      · rw [if_neg h3, if_neg (by omega)]
theorem su_pS_1 {S : Nat → aE} {K : Nat} {obj : aE} {f : Nat → aE} : su S K obj = pS S K 1 obj f := by
  funext k
  unfold su pS
  by_cases h1 : k = K
  · rw [if_pos h1, if_pos h1]
  · rw [if_neg h1, if_neg h1, if_neg (by omega)]
section PUSH
variable {E : aEnv} {ah : aHp} {A : Nat → Nat} {S : Nat → aE} {K : Nat}
theorem oca_su {q k : Nat} {e x : aE} (hA : ∀ j k, A j = A k → j = k) (h : ¬ A k = q) : oca A (su S k e) q x = oca A S q x := by
  by_cases hx : ∃ j, A j = q
  · obtain ⟨j, rfl⟩ := hx
    rw [oca_k hA, oca_k hA, su_ne (fun z => h (by rw [z]))]
  · have hn : ∀ k, A k ≠ q := fun k hk => hx ⟨k, hk⟩
    rw [oca_n hn, oca_n hn]
theorem hg_app {x : aHp} {q : Nat} (h : q < E.1 + ah.length) : hg E (ah ++ x) q = hg E ah q := by
  unfold hg
  split
  · rw [List.getElem?_append_left (by omega)]
  · rfl
theorem oh_push (hA : ∀ j k, A j = A k → j = k) (hK : A K = E.1 + ah.length) {e x : aE} : oh E ah A S ++ [e] = oh E (ah ++ [x]) A (su S K e) := by
  apply hp_ext (E := E)
  · rw [List.length_append, oh_len, oh_len, List.length_append]
    rfl
  · intro q hq
    rw [oh_hg]
    by_cases h1 : q < E.1 + ah.length
    · rw [hg_app (by rw [oh_len]; exact h1), hg_app h1, oh_hg]
      cases hg E ah q with
      | none => rfl
      | some y =>
        simp only [Option.map_some]
        rw [oca_su hA (by omega)]
    · by_cases h2 : q = E.1 + ah.length
      · have h3 : ∀ (y : aE) (l : aHp), l.length = ah.length → hg E (l ++ [y]) q = some y := by
          intro y l hl
          unfold hg
          rw [if_pos hq, show q - E.1 = l.length by omega]
          simp
        rw [h3 e _ oh_len, h3 x _ rfl, Option.map_some, h2, ← hK, oca_k hA, su_at]
      · have h3 : ∀ (y : aE) (l : aHp), l.length = ah.length → hg E (l ++ [y]) q = none := by
          intro y l hl
          unfold hg
          rw [if_pos hq, List.getElem?_eq_none]
          rw [List.length_append, hl]
          simp
          omega
        rw [h3 e _ oh_len, h3 x _ rfl]
        rfl
theorem dR_len {n : Nat} : (ah ++ dR n).length = ah.length + n := by
  unfold dR
  simp
theorem dR_s {n : Nat} : ah ++ dR n ++ [.inr (0, [])] = ah ++ dR (n + 1) := by
  unfold dR
  rw [List.append_assoc, ← List.replicate_succ']
/-- the new cells' names -/
noncomputable def NW (E : aEnv) (ah : aHp) (A : Nat → Nat) (K : Nat) : Prop := (∀ j k, A j = A k → j = k) ∧ (∀ k, k < K → ∃ e, hg E ah (A k) = some e) ∧ (∀ q, A (K + q) = E.1 + ah.length + q) ∧ ah.length + 11 < 1000
theorem NW.g (h : NW E ah A K) {n k : Nat} (hk : k < K + n) : ∃ e, hg E (ah ++ dR n) (A k) = some e := by
  by_cases z : k < K
  · obtain ⟨e, he⟩ := h.2.1 k z
    refine ⟨e, ?_⟩
    rw [hg_app, he]
    apply Classical.byContradiction
    intro y
    unfold hg at he
    split at he
    · rw [List.getElem?_eq_none (by omega)] at he
      exact absurd he (by simp)
    · exact absurd he (by simp)
  · have := h.2.2.1 (k - K)
    rw [Nat.add_sub_cancel' (by omega)] at this
    refine ⟨.inr (0, []), ?_⟩
    unfold hg dR
    rw [this, if_pos (by omega), List.getElem?_append_right (by omega), List.getElem?_replicate, if_pos (by omega)]
theorem NW_hg (h : NW E ah A K) {n k : Nat} (hk : k < K + n) : hg E (oh E (ah ++ dR n) A S) (A k) = some (S k) := oh_g h.1 (h.g hk)
theorem NW_hs (h : NW E ah A K) {n k : Nat} (hk : k < K + n) {e : aE} : hs E (oh E (ah ++ dR n) A S) (A k) e = oh E (ah ++ dR n) A (su S k e) := oh_s h.1 (h.g hk)
theorem NW.push (h : NW E ah A K) {n : Nat} {e : aE} : oh E (ah ++ dR n) A S ++ [e] = oh E (ah ++ dR (n + 1)) A (su S (K + n) e) := by
  rw [oh_push (x := .inr (0, [])) h.1 (K := K + n) (by rw [h.2.2.1, dR_len]; omega), dR_s]
theorem NW_nR (h : NW E ah A K) {n t w : Nat} {x : Int32} (hx : x = nI w) {obj : aE} {f : Nat → aE} {r : List Value} (hn : 1 ≤ n) (hn2 : n ≤ 10) (hw : w ≤ 5000) (hf : .inl (t, aZ t w) = f n) : nR E (oh E (ah ++ dR n) A (pS S K n obj f)) t (.int x :: r) = some (.ref (A (K + n)) :: r, oh E (ah ++ dR (n + 1)) A (pS S K (n + 1) obj f)) := by
  subst hx
  have hl := h.2.2.2
  unfold nR
  dsimp only
  rw [nI_clamp (by omega), oh_len, dR_len, if_neg, h.push, su_pS_n hn hf, h.2.2.1, Nat.add_assoc]
  unfold wid lim
  simp only [not_or]
  refine ⟨?_, by omega, by omega⟩
  rw [nI_ltL (by omega) (by decide)]
  omega
end PUSH
theorem dfl_2 : dfl 2 = [.int 0, .int 0, .null, .null, .long 0, .null, .null, .null, .null, .null, .null, .null, .null, .int 0, .int 0] := by rfl
section MM
variable {E : aEnv} {c : Nat} {ah : aHp}
theorem c_max {x y : Int32} : EV E c 292 [.int x, .int y] ah (some (.int (if x < y then y else x))) ah := by
  refine e292 ?_
  simp only [r292_0, r292_1, r292_2, r292_5, r292_6, r292_9, r292_10, oGF_is, WPo_some, List.getElem?_cons_succ, List.getElem?_cons_zero, kil_n, kil_i, kil_a, kil_u, kil_l, Option.toList_some, Option.toList_none, List.cons_append, List.nil_append, List.set_cons_succ, List.set_cons_zero, addm1, Nat.reduceAdd, List.length_cons, List.length_nil, Nat.reduceLT, not_true_eq_false, not_false_eq_true, if_true, if_false, or_self, and_self, true_and, and_true, or_true, true_or, false_or, or_false, false_and, and_false]
  repeat' split
  all_goals first | exact trivial | exact ⟨rfl, rfl⟩ | (exfalso; omega) | (exfalso; simp_all; done) | (simp_all; done)
theorem c_maxL {x y : Int64} : EV E c 293 [.long x, .long y] ah (some (.long (if x < y then y else x))) ah := by
  refine e293 ?_
  simp only [r293_0, r293_1, r293_2, r293_3, r293_6, r293_7, r293_10, r293_11, oGF_is, WPo_some, List.getElem?_cons_succ, List.getElem?_cons_zero, kil_n, kil_i, kil_a, kil_u, kil_l, Option.toList_some, Option.toList_none, List.cons_append, List.nil_append, List.set_cons_succ, List.set_cons_zero, addm1, Nat.reduceAdd, List.length_cons, List.length_nil, Nat.reduceLT, not_true_eq_false, not_false_eq_true, if_true, if_false, or_self, and_self, true_and, and_true, or_true, true_or, false_or, or_false, false_and, and_false, lg_cmp_lt]
  repeat' split
  all_goals first | exact trivial | exact ⟨rfl, rfl⟩ | (exfalso; omega) | (exfalso; simp_all; done) | (simp_all; done)
theorem c_min {x y : Int32} : EV E c 294 [.int x, .int y] ah (some (.int (if y < x then y else x))) ah := by
  refine e294 ?_
  simp only [r294_0, r294_1, r294_2, r294_5, r294_6, r294_9, r294_10, oGF_is, WPo_some, List.getElem?_cons_succ, List.getElem?_cons_zero, kil_n, kil_i, kil_a, kil_u, kil_l, Option.toList_some, Option.toList_none, List.cons_append, List.nil_append, List.set_cons_succ, List.set_cons_zero, addm1, Nat.reduceAdd, List.length_cons, List.length_nil, Nat.reduceLT, not_true_eq_false, not_false_eq_true, if_true, if_false, or_self, and_self, true_and, and_true, or_true, true_or, false_or, or_false, false_and, and_false]
  repeat' split
  all_goals first | exact trivial | exact ⟨rfl, rfl⟩ | (exfalso; omega) | (exfalso; simp_all; done) | (simp_all; done)
end MM

/-! The start: the model's constructor to its end, both objects, the relation at the start -/
noncomputable def aiN (i : Nat) : Nat → Nat → Int32 := fun k j => if k = 3 ∧ j < i then -1 else 0
noncomputable def al0 : Nat → Nat → Int64 := fun _ _ => 0
noncomputable def fMi (i n : Nat) : aE := mcl (idx n) (aiN i) al0
theorem aiN_0 : aiN 0 = fun _ _ => 0 := by
  funext k j
  unfold aiN
  rw [if_neg (by omega)]
theorem fMi_0 : fMi 0 = fM := by
  funext n
  unfold fMi fM al0
  rw [aiN_0]
theorem rk_f : ∀ k, k < 99 → mtg k < 4 → 1 ≤ rk k ∧ rk k ≤ 60 ∧ idx (rk k) = k := by decide +kernel
theorem idx_f : ∀ n, n < 61 → 1 ≤ n → idx n < 99 ∧ mtg (idx n) < 4 ∧ rk (idx n) = n ∧ (n ≠ 2 → idx n ≠ 3) := by decide +kernel
theorem upd_aiN {i : Nat} : upd (aiN i 3) i (-1) = aiN (i + 1) 3 := by
  funext j
  unfold upd aiN
  by_cases h : j = i
  · rw [if_pos h, if_pos ⟨rfl, by omega⟩]
  · rw [if_neg h]
    by_cases h2 : j < i
    · rw [if_pos ⟨rfl, h2⟩, if_pos ⟨rfl, by omega⟩]
    · rw [if_neg (by omega), if_neg (by omega)]
theorem aiN_o {i k : Nat} (h : k ≠ 3) : aiN i k = fun _ => 0 := by
  funext j
  unfold aiN
  rw [if_neg (by omega)]
section KM2
variable {E : aEnv} {c : Nat} {A : Nat → Nat} {S : Nat → aE}
theorem wEnd_3 : (mW (wEnd A))[3]? = some (.ref (A 83)) := by rfl
theorem pS_fMi {i : Nat} {obj : aE} : su (pS S 81 61 obj (fMi i)) 83 (.inl (0, 4, .inl (aiN (i + 1) 3))) = pS S 81 61 obj (fMi (i + 1)) := by
  funext k
  unfold su pS
  by_cases h1 : k = 83
  · rw [if_pos h1, if_neg (by omega), if_pos (by omega), h1]
    rfl
  · rw [if_neg h1]
    by_cases h2 : k = 81
    · rw [if_pos h2, if_pos h2]
    · rw [if_neg h2, if_neg h2]
      by_cases h3 : 81 < k ∧ k < 81 + 61
      · rw [if_pos h3, if_pos h3]
        obtain ⟨-, -, -, f⟩ := idx_f (k - 81) (by omega) (by omega)
        unfold fMi mcl
        rw [aiN_o (f (by omega)), aiN_o (f (by omega))]
      · rw [if_neg h3, if_neg h3]
theorem l_km2 (h : NW E [] A 0) : ∀ z i, i + z = 4 → WP E (c + 1) 195 508 [some (.ref (A 81)), some (.int (nI i))] [] (oh E (dR 81 ++ dR 61) A (pS S 81 61 (.inr (11, mW (wEnd A))) (fMi i))) (fun r x => r = none ∧ x = oh E (dR 81 ++ dR 61) A (pS S 81 61 (.inr (11, mW (wEnd A))) (fMi 4)))
  | 0, i, hz => by
    rw [show i = 4 by omega, r195_508]
    simp (disch := first | assumption | omega | decide | (simp only [List.length_cons, List.length_nil, Nat.reduceAdd, Nat.reduceLT]; done) | fail) only [r195_509, r195_510, r195_526, oGF_is, WPo_some, List.getElem?_cons_succ, List.getElem?_cons_zero, kil_n, kil_i, kil_a, kil_u, kil_l, Option.toList_some, Option.toList_none, List.cons_append, List.nil_append, List.set_cons_succ, List.set_cons_zero, addm1, Nat.reduceAdd, List.length_cons, List.length_nil, Nat.reduceLT, nI_clamp, nI_toInt, nI_leL, nI_Lle, nI_ltL, nI_Llt, nI_eqL, nI_Leq, nI_leE, nI_ltE, nI_eqE, nI_eqM, nI_add, nI_addL, nI_Ladd, nI_mulL, nI_Lmul, pk_mul, pk_sub, nI_subL, nI_Lsub, i2l_nI, Int.toNat_natCast, Nat.not_lt_zero, Nat.zero_le, ifT, ifF, not_true_eq_false, not_false_eq_true, if_true, if_false, or_self, and_self, true_and, and_true, or_true, true_or, false_or, or_false, false_and, and_false]
  | z + 1, i, hz => by
    have ih := l_km2 h z (i + 1) (by omega)
    have h8 := NW_0 h (n := 81) (by decide)
    have hg0 : hg E (oh E (dR 81 ++ dR 61) A (pS S 81 61 (.inr (11, mW (wEnd A))) (fMi i))) (A 81) = some (.inr (11, mW (wEnd A))) := (NW_hg h8 (by omega)).trans (by rw [pS_K])
    have hg3 : hg E (oh E (dR 81 ++ dR 61) A (pS S 81 61 (.inr (11, mW (wEnd A))) (fMi i))) (A 83) = some (.inl (0, 4, .inl (aiN i 3))) := (NW_hg h8 (by omega)).trans rfl
    have pi : ∀ r, pI E (oh E (dR 81 ++ dR 61) A (pS S 81 61 (.inr (11, mW (wEnd A))) (fMi i))) (.int (-1) :: .int (nI i) :: .ref (A 83) :: r) = some (r, oh E (dR 81 ++ dR 61) A (pS S 81 61 (.inr (11, mW (wEnd A))) (fMi (i + 1)))) := fun r => by
      rw [pI_at hg3 (vp_in_nI (by omega) (by omega)), nI_clamp (by omega), upd_aiN, NW_hs h8 (by omega), pS_fMi]
    rw [r195_508]
    simp (disch := first | assumption | omega | decide | (simp only [List.length_cons, List.length_nil, Nat.reduceAdd, Nat.reduceLT]; done) | fail) only [r195_509, r195_510, r195_513, r195_514, r195_517, r195_518, r195_519, r195_520, r195_523, hg0, wEnd_3, pi, oGF_is, WPo_some, List.getElem?_cons_succ, List.getElem?_cons_zero, kil_n, kil_i, kil_a, kil_u, kil_l, Option.toList_some, Option.toList_none, List.cons_append, List.nil_append, List.set_cons_succ, List.set_cons_zero, addm1, Nat.reduceAdd, List.length_cons, List.length_nil, Nat.reduceLT, nI_clamp, nI_toInt, nI_leL, nI_Lle, nI_ltL, nI_Llt, nI_eqL, nI_Leq, nI_leE, nI_ltE, nI_eqE, nI_eqM, nI_add, nI_addL, nI_Ladd, nI_mulL, nI_Lmul, pk_mul, pk_sub, nI_subL, nI_Lsub, i2l_nI, Int.toNat_natCast, Nat.not_lt_zero, Nat.zero_le, ifT, ifF, not_true_eq_false, not_false_eq_true, if_true, if_false, or_self, and_self, true_and, and_true, or_true, true_or, false_or, or_false, false_and, and_false]
    exact ih
theorem k_195 (h : NW E [] A 0) : EV E (c + 1) 195 [.ref (A 81)] (oh E (dR 81 ++ dR 1) A (su S 81 (.inr (11, dfl 11)))) none (oh E (dR 81 ++ dR 61) A (pS S 81 61 (.inr (11, mW (wEnd A))) (fMi 4))) := by
  refine e195 ?_
  refine l_km h ?_
  have k := l_km2 (c := c) (S := S) h 4 0 rfl
  rw [fMi_0, show nI 0 = (0 : Int32) from rfl] at k
  simp (disch := first | assumption | omega | decide | (simp only [List.length_cons, List.length_nil, Nat.reduceAdd, Nat.reduceLT]; done) | fail) only [r195_506, r195_507, oGF_is, WPo_some, List.getElem?_cons_succ, List.getElem?_cons_zero, kil_n, kil_i, kil_a, kil_u, kil_l, Option.toList_some, Option.toList_none, List.cons_append, List.nil_append, List.set_cons_succ, List.set_cons_zero, addm1, Nat.reduceAdd, List.length_cons, List.length_nil, Nat.reduceLT, not_true_eq_false, not_false_eq_true, if_true, if_false, or_self, and_self, true_and, and_true, or_true, true_or, false_or, or_false, false_and, and_false]
  exact k
set_option maxRecDepth 20000 in
theorem mW_end : mW (wEnd A) = mF (fun k => A (81 + rk k)) v0 := by rfl
end KM2
noncomputable def A1 (E : aEnv) : Nat → Nat := fun k => E.1 + k
noncomputable def A2 (E : aEnv) : Nat → Nat := fun k => if k < 81 then E.1 + k else E.1 + (61 + k)
noncomputable def ma1 (E : aEnv) : Nat → Nat := fun k => A1 E (81 + rk k)
section INI
variable {E : aEnv}
theorem A1_inj : ∀ j k, A1 E j = A1 E k → j = k := fun j k h => by
  unfold A1 at h
  omega
theorem A2_inj : ∀ j k, A2 E j = A2 E k → j = k := fun j k h => by
  unfold A2 at h
  split at h <;> split at h <;> omega
theorem A2_lt {k : Nat} (h : k < 81) : A2 E k = A1 E k := by
  unfold A2 A1
  rw [if_pos h]
theorem dR_l {n : Nat} : (dR n).length = n := by
  unfold dR
  simp
theorem dR_hg {n i : Nat} (h : i < n) : hg E (dR n) (E.1 + i) = some (.inr (0, [])) := by
  unfold hg dR
  rw [if_pos (by omega), List.getElem?_replicate, if_pos (by omega)]
theorem NW1 : NW E [] (A1 E) 0 := ⟨A1_inj, fun k hk => absurd hk (Nat.not_lt_zero k), fun q => by show E.1 + (0 + q) = E.1 + 0 + q; omega, by decide⟩
theorem MO1 : MO E (dR 142) (A1 E 81) (ma1 E) := by
  refine ⟨⟨_, dR_hg (by decide)⟩, fun k hk ht => ?_, fun j k hj hk tj tk h => ?_⟩
  · obtain ⟨f1, f2, -⟩ := rk_f k hk ht
    exact ⟨⟨_, dR_hg (by omega)⟩, fun z => by have := A1_inj _ _ z; omega⟩
  · have := A1_inj _ _ h
    have e : rk j = rk k := by omega
    rw [← (rk_f j hj tj).2.2, e, (rk_f k hk tk).2.2]
theorem CX1 : CX E (dR 142) (A2 E) (A1 E 81) (ma1 E) 0 := by
  refine ⟨⟨A2_inj, fun k hk => ⟨_, by rw [A2_lt (by omega)]; exact dR_hg (by omega)⟩, fun q => ?_, by rw [dR_l]; decide⟩, fun k => ⟨?_, fun j hj ht => ?_⟩, MO1⟩
  · unfold A2
    rw [if_neg (by omega), dR_l]
    omega
  · unfold A2 A1
    split <;> omega
  · obtain ⟨f1, f2, -⟩ := rk_f j hj ht
    unfold A2 ma1 A1
    split <;> omega
theorem start_heap {T : Nat → aE} : oh E (dR 81 ++ dR 61) (A1 E) (pS (pS T 0 81 (xO (A1 E) 61 67 0 0 0 0) (S0 (A1 E))) 81 61 (.inr (11, mW (wEnd (A1 E)))) (fMi 4)) = oh E (mh E (dR 142) (A1 E 81) (ma1 E) v0 (aiN 4) al0) (A2 E) (S0 (A1 E)) := by
  rw [dR_dR, mW_end]
  apply hp_ext (E := E)
  · rw [oh_len, oh_len, mh_len]
  · intro q hq
    rw [oh_hg, oh_hg, mh_hg]
    obtain ⟨i, rfl⟩ : ∃ i, q = E.1 + i := ⟨q - E.1, by omega⟩
    by_cases hi : i < 142
    · rw [dR_hg (n := 81 + 61) hi, Option.map_some, Option.map_some, Option.map_some]
      refine congrArg some ((oca_k (A := A1 E) A1_inj i _).trans ?_)
      by_cases h1 : i < 81
      · have e2 : E.1 + i = A2 E i := by
          unfold A2
          rw [if_pos h1]
        rw [e2, oca_k A2_inj]
        unfold pS
        rw [if_neg (by omega), if_neg (by omega)]
        by_cases h0 : i = 0
        · rw [if_pos h0, h0]
          rfl
        · rw [if_neg h0, if_pos (by omega)]
          rfl
      · have hn : ∀ k, A2 E k ≠ E.1 + i := fun k => by
          unfold A2
          split <;> omega
        rw [oca_n hn]
        by_cases h2 : i = 81
        · subst h2
          unfold mca pS
          rw [if_pos rfl, if_pos (show E.1 + 81 = A1 E 81 from rfl)]
          rfl
        · obtain ⟨n, hn1, rfl⟩ : ∃ n, (1 ≤ n ∧ n < 61) ∧ i = 81 + n := ⟨i - 81, by omega, by omega⟩
          obtain ⟨f1, f2, f3, f4⟩ := idx_f n hn1.2 hn1.1
          have hm := mfd_k (MO1 (E := E)) (k := idx n) f1 f2
          have e3 : ma1 E (idx n) = E.1 + (81 + n) := by
            unfold ma1 A1
            rw [f3]
          rw [e3] at hm
          have hne : ¬ E.1 + (81 + n) = A1 E 81 := by
            unfold A1
            omega
          unfold mca pS
          rw [if_neg (by omega), if_pos (by omega), if_neg hne, hm, Nat.add_sub_cancel_left]
          rfl
    · have hh : ∀ n, n = 142 → hg E (dR n) (E.1 + i) = none := fun n hn => by
        unfold hg dR
        rw [if_pos (by omega), List.getElem?_replicate, if_neg (by omega)]
      rw [hh (81 + 61) rfl]
      rfl
theorem no0 {p : Prop} {k : Nat} (h : k < 0) : p := absurd h (Nat.not_lt_zero k)
theorem q0_T : qT (A2 E) (S0 (A1 E)) (aiN 4) al0 (fun _ => -1) (fun _ => 0) (fun _ _ => 0) := by
  refine ⟨⟨?_, fun i hi => ?_⟩, fun i hi => ⟨Nat.zero_le _, ?_, fun k hk => no0 hk⟩⟩
  · show (Sum.inl (4, 4, .inr (.inr (.inr (.inr (fun i => if i < 4 then some (A1 E (73 + 2 * i)) else none))))) : aE) = _
    refine congrArg (fun g => (Sum.inl (4, 4, Sum.inr (Sum.inr (Sum.inr (Sum.inr g)))) : aE)) (funext fun i => ?_)
    split
    · rw [A2_lt (by omega)]
    · rfl
  · match i, hi with
    | 0, _ => exact ⟨rfl, rfl, Nat.zero_le _, Or.inl rfl⟩
    | 1, _ => exact ⟨rfl, rfl, Nat.zero_le _, Or.inl rfl⟩
    | 2, _ => exact ⟨rfl, rfl, Nat.zero_le _, Or.inl rfl⟩
    | 3, _ => exact ⟨rfl, rfl, Nat.zero_le _, Or.inl rfl⟩
    | k + 4, h => omega
  · rw [if_pos rfl]
    refine ⟨?_, rfl⟩
    unfold aiN
    rw [if_pos ⟨rfl, hi⟩]
theorem q0_E : qE (A2 E) (S0 (A1 E)) v0 (aiN 4) 0 (fun _ => 0) (fun _ => 0) (fun _ _ => 0) (fun _ _ _ => 0) (fun _ => 0) (fun _ => 0) (fun _ _ _ => 0) := by
  refine ⟨⟨by decide, ?_, fun e he => no0 he⟩, by decide, rfl, fun e he => no0 he, fun e _ he => ⟨rfl, rfl, fun p _ => rfl⟩⟩
  show (Sum.inl (5, 4, .inr (.inr (.inr (.inr (fun _ => none))))) : aE) = _
  exact congrArg (fun g => (Sum.inl (5, 4, Sum.inr (Sum.inr (Sum.inr (Sum.inr g)))) : aE)) (funext fun i => (if_neg (Nat.not_lt_zero i)).symm)
theorem q0_J : qJ (A2 E) (S0 (A1 E)) v0 (aiN 4) 0 (fun _ => 0) (fun _ => 0) := by
  refine ⟨0, fun _ => 0, fun _ => 0, fun _ => 0, ⟨0, 0, fun _ => z32, fun q hq => ?_, ⟨by decide, fun j hj => no0 hj⟩, Or.inl rfl⟩, by decide, rfl, fun j hj => no0 hj⟩
  match q, hq with
  | 0, _ => rfl
  | 1, _ => rfl
  | 2, _ => rfl
  | 3, _ => rfl
  | 4, _ => rfl
  | 5, _ => rfl
  | 6, _ => rfl
  | k + 7, h => omega
theorem q0_C : qC (A2 E) (S0 (A1 E)) v0 := by
  refine ⟨none, ⟨0, 0, 0, 0, 0, z64, z64, z64, z64, fun q hq => ?_, rfl⟩, rfl⟩
  match q, hq with
  | 0, _ => rfl
  | 1, _ => rfl
  | 2, _ => rfl
  | 3, _ => rfl
  | 4, _ => rfl
  | k + 5, h => omega
theorem q0_P : qP (A2 E) (S0 (A1 E)) v0 (aiN 4) := by
  have e : ∀ k, k ≠ 3 → aiN 4 k = z32 := fun k hk => aiN_o hk
  refine ⟨fun _ => z32, 0, 0, 0, 0, fun _ => 0, fun _ => 0, ⟨rfl, rfl, rfl, rfl, rfl, rfl, rfl, rfl, by decide, by decide, by decide⟩, ⟨rfl, rfl, rfl, rfl, rfl, e _ (by decide), e _ (by decide), ?_, e _ (by decide), e _ (by decide), e _ (by decide), e _ (by decide)⟩, rfl, fun i hi => no0 hi⟩
  rw [e 85 (by decide)]
  funext i
  unfold pfr
  rw [if_neg (Nat.not_lt_zero i)]
  rfl
theorem q0_R : qR (A2 E) (S0 (A1 E)) v0 (aiN 4) := by
  refine ⟨0, z32, z32, ⟨by decide, 0, 0, 0, 0, 0, z32, z32, z64, fun _ => z32, ?_⟩, by decide, rfl, fun i hi => no0 hi⟩
  funext q
  by_cases z : 19 ≤ q ∧ q ≤ 45
  · have e : S0 (A1 E) q = eS (A1 E) (fun _ => .inr (0, [])) 0 0 0 0 0 0 z32 z32 z32 z32 z64 (fun _ => z32) q := by
      unfold S0
      iterate 12 rw [if_neg (by omega)]
      rw [if_pos (by omega)]
    rw [e]
    unfold eS
    by_cases c1 : q = 19
    · rw [if_pos c1, if_pos c1]
      rfl
    rw [if_neg c1, if_neg c1]
    by_cases c2 : q = 20
    · rw [if_pos c2, if_pos c2]
    rw [if_neg c2, if_neg c2]
    by_cases c3 : q = 21
    · rw [if_pos c3, if_pos c3]
    rw [if_neg c3, if_neg c3]
    by_cases c4 : q = 22
    · rw [if_pos c4, if_pos c4]
      refine congrArg (fun g => (Sum.inl (6, 20, Sum.inr (Sum.inr (Sum.inr (Sum.inr g)))) : aE)) (funext fun i => ?_)
      split
      · rw [A2_lt (by omega)]
      · rfl
    rw [if_neg c4, if_neg c4]
    by_cases c5 : q = 43
    · rw [if_pos c5, if_pos c5]
    rw [if_neg c5, if_neg c5]
    by_cases c6 : q = 44
    · rw [if_pos c6, if_pos c6]
    rw [if_neg c6, if_neg c6]
    by_cases c7 : q = 45
    · rw [if_pos c7, if_pos c7]
    rw [if_neg c7, if_neg c7, if_pos (by omega), if_pos (by omega)]
  · rw [eS_ne z]
theorem RLN0 : RLN (A2 E) (S0 (A1 E)) v0 (aiN 4) al0 0 := by
  refine ⟨61, 67, 0, 0, 0, fun _ => -1, fun _ => 0, fun _ _ => 0, fun _ => 0, fun _ => 0, fun _ _ => 0, fun _ _ _ => 0, fun _ => 0, fun _ => 0, fun _ _ _ => 0, ⟨rfl, rfl, by decide⟩, q0_T, q0_E, q0_J, q0_C, q0_P, ⟨?_, rfl⟩, ⟨-1, -1, ⟨_, _, _, _, _, _, rfl⟩, rfl, rfl⟩, ⟨Or.inl ⟨rfl, rfl⟩, ⟨z32, z32, z32, z32, z64, 0, rfl, rfl, rfl, rfl, rfl, rfl⟩, ⟨z32, z32, z32, z32, z64, 0, ⟨rfl, rfl, rfl, rfl, rfl, rfl⟩, Or.inl ⟨rfl, rfl⟩⟩, fun q => ⟨0, by decide, rfl⟩, fun q => ⟨0, by decide, rfl⟩⟩, ⟨false, 0, z64, z64, 0, 0, 0, 0, 0, 0, -1, 0, ⟨by decide, 0, 0, rfl, rfl, rfl⟩, ⟨by decide, rfl, rfl, rfl, rfl, rfl, rfl, fun i _ => rfl, fun i h => no0 h⟩, fun h => Bool.noConfusion h⟩, q0_R, ⟨rfl, ⟨_, rfl⟩, ⟨_, rfl⟩, ⟨_, rfl⟩, ⟨_, rfl⟩⟩⟩
  show (Sum.inl (2, 500, .inl z32) : aE) = _
  rw [aiN_o (by decide)]
  rfl
theorem law_run {c s n : Nat} {f : Nat → Int32} (hs : SC E s n f) (hE : StE E) (hE2 : ErE E) : WP E (c + 13) 298 0 [some (.ref s), none, none, none] [] [] (fun r a => r = some (.int 1) ∧ a.length ≤ 300) := by
  have K := l_law (c := c) (A := A2 E) (m := A1 E 81) (ma := ma1 E) hs hE hE2 n 0 (dR 142) (S0 (A1 E)) v0 (aiN 4) al0 0 (by omega) (by omega) ⟨CX1, RLN0, dR_l⟩
  rw [← start_heap (T := fun _ => .inr (0, [])), show A2 E 0 = A1 E 0 from rfl, show nI 0 = (0 : Int32) from rfl] at K
  have n1 : nO E [] 10 [] = some ([.ref (A1 E 0)], oh E (dR 1) (A1 E) (su (fun _ => .inr (0, [])) 0 (.inr (10, dfl 10)))) := NW_nO NW1 (n := 0) (ci := 10) (by decide) (by decide) (T := fun _ => .inr (0, [])) (st := [])
  have k1 := k_144 (c := c + 10) (S := fun _ => .inr (0, [])) (NW1 (E := E))
  have n2 := NW_nO (NW1 (E := E)) (n := 81) (ci := 11) (by decide) (by decide) (T := pS (fun _ => .inr (0, [])) 0 81 (xO (A1 E) 61 67 0 0 0 0) (S0 (A1 E))) (st := [])
  have k2 := k_195 (c := c + 11) (S := pS (fun _ => .inr (0, [])) 0 81 (xO (A1 E) 61 67 0 0 0 0) (S0 (A1 E))) (NW1 (E := E))
  rw [r298_0, n1, WPo_some]
  dsimp only
  rw [r298_3, r298_4 (c := c + 12) k1 (Nat.le_of_ble_eq_true rfl)]
  simp (disch := first | assumption | omega | decide | (simp only [List.length_cons, List.length_nil, Nat.reduceAdd, Nat.reduceLT]; done) | fail) only [r298_7, r298_7n, oGF_is, WPo_some, List.getElem?_cons_succ, List.getElem?_cons_zero, kil_n, kil_i, kil_a, kil_u, kil_l, Option.toList_some, Option.toList_none, List.cons_append, List.nil_append, List.set_cons_succ, List.set_cons_zero, addm1, Nat.reduceAdd, List.length_cons, List.length_nil, Nat.reduceLT, not_true_eq_false, not_false_eq_true, if_true, if_false, or_self, and_self, true_and, and_true, or_true, true_or, false_or, or_false, false_and, and_false]
  rw [r298_8, n2, WPo_some]
  dsimp only
  rw [r298_11, r298_12 (c := c + 12) k2 (Nat.le_of_ble_eq_true rfl)]
  simp (disch := first | assumption | omega | decide | (simp only [List.length_cons, List.length_nil, Nat.reduceAdd, Nat.reduceLT]; done) | fail) only [r298_15, r298_15n, r298_16, r298_17, oGF_is, WPo_some, List.getElem?_cons_succ, List.getElem?_cons_zero, kil_n, kil_i, kil_a, kil_u, kil_l, Option.toList_some, Option.toList_none, List.cons_append, List.nil_append, List.set_cons_succ, List.set_cons_zero, addm1, Nat.reduceAdd, List.length_cons, List.length_nil, Nat.reduceLT, not_true_eq_false, not_false_eq_true, if_true, if_false, or_self, and_self, true_and, and_true, or_true, true_or, false_or, or_false, false_and, and_false]
  exact K
end INI

/-! The class' own constructor -/
noncomputable def z32 : Nat → Int32 := fun _ => 0
noncomputable def z64 : Nat → Int64 := fun _ => 0
/-- what a new works holds -/
noncomputable def S0 (A : Nat → Nat) : Nat → aE := fun k =>
  if k = 0 then xO A 61 67 0 0 0 0
  else if k = 1 then .inl (4, 4, .inr (.inr (.inr (.inr (fun i => if i < 4 then some (A (73 + 2 * i)) else none)))))
  else if k = 2 then .inl (5, 4, .inr (.inr (.inr (.inr (fun _ => none)))))
  else if k < 8 then exC A 0 0 0 0 0 z64 z64 z64 z64 (k - 3)
  else if k = 8 then .inr (5, [.ref (A 9), .ref (A 10), .ref (A 11), .ref (A 12)])
  else if k < 13 then .inl (1, 5, .inr (.inl z64))
  else if k = 13 then .inl (2, 500, .inl z32)
  else if k = 14 then .inr (0, [.ref (A 15), .int 0, .int 0, .int 0, .int 0, .long 0, .int (-1), .int (-1)])
  else if k = 15 then .inl (2, 0, .inl z32)
  else if k = 16 then .inr (7, [.ref (A 17), .ref (A 18), .int 0, .int 0, .int 0, .int 0, .int 0, .int 0, .int 0, .int 0])
  else if k = 17 then .inl (1, 20, .inr (.inl z64))
  else if k = 18 then .inl (1, 40, .inr (.inl z64))
  else if k < 46 then eS A (fun _ => .inr (0, [])) 0 0 0 0 0 0 z32 z32 z32 z32 z64 (fun _ => z32) k
  else if k = 46 then plO (fun j => A (47 + j)) 0 0 0 0
  else if k < 49 then .inl (0, 100, .inl z32)
  else if k < 51 then .inl (0, 20, .inl z32)
  else if k < 54 then .inl (0, 60, .inl z32)
  else if k < 61 then jC A 0 0 0 (fun _ => z32) (k - 54)
  else if k < 67 then dk A (fun _ => .inr (0, [])) 61 z32 z32 z32 z32 z64 0 k
  else if k < 73 then dk A (fun _ => .inr (0, [])) 67 z32 z32 z32 z32 z64 0 k
  else if k % 2 = 1 then .inr (9, [.ref (A (k + 1)), .int (-1), .int 0])
  else .inl (1, 60, .inr (.inl z64))
noncomputable def trw (A : Nat → Nat) (i : Nat) : aE := .inl (4, 4, .inr (.inr (.inr (.inr (fun j => if j < i then some (A (73 + 2 * j)) else none)))))
noncomputable def Sg (A : Nat → Nat) (i : Nat) : Nat → aE := su (S0 A) 1 (trw A i)
theorem Sg_4 {A : Nat → Nat} : Sg A 4 = S0 A := by
  funext k
  unfold Sg su
  split
  next h => rw [h]; rfl
  · rfl
theorem S0_row {A : Nat → Nat} {k i : Nat} (h1 : 23 ≤ k) (h2 : k ≤ 42) : Sg A i k = .inl (0, 79, .inl z32) := by
  unfold Sg
  rw [su_ne (by omega)]
  unfold S0 eS
  repeat rw [if_neg (by omega)]
  rw [if_pos (by omega), if_neg (by omega), if_neg (by omega), if_neg (by omega), if_neg (by omega), if_neg (by omega), if_neg (by omega), if_neg (by omega), if_pos (by omega)]
theorem pS_pS {S : Nat → aE} {obj : aE} {f : Nat → aE} {n N : Nat} (hn : 1 ≤ n) (hN : 1 ≤ N) : pS (pS S 0 n obj f) n N (f n) (fun i => f (n + i)) = pS S 0 (n + N) obj f := by
  funext k
  unfold pS
  by_cases h1 : k = n
  · rw [if_pos h1, h1, if_neg (by omega), if_pos (by omega)]
    rfl
  · rw [if_neg h1]
    by_cases h2 : n < k ∧ k < n + N
    · rw [if_pos h2, if_neg (by omega), if_pos (by omega)]
      show f (n + (k - n)) = f (k - 0)
      rw [Nat.add_sub_cancel' (by omega)]
      rfl
    · rw [if_neg h2]
      by_cases h3 : k = 0
      · rw [if_pos h3, if_pos h3]
      · rw [if_neg h3, if_neg h3]
        by_cases h4 : 0 < k ∧ k < 0 + n
        · rw [if_pos h4, if_pos (by omega)]
        · rw [if_neg h4, if_neg (by omega)]
section KX
variable {E : aEnv} {c : Nat} {A : Nat → Nat} {S : Nat → aE}
theorem dR_dR {n m : Nat} : dR n ++ dR m = dR (n + m) := by
  unfold dR
  rw [List.replicate_append_replicate]
theorem NW_0 (h : NW E [] A 0) {n : Nat} (hn : n < 900) : NW E (dR n) A n := by
  have hl : (dR n).length = n := by unfold dR; simp
  refine ⟨h.1, fun k hk => h.g (by omega), fun q => ?_, by rw [hl]; omega⟩
  have := h.2.2.1 (n + q)
  rw [hl]
  rw [Nat.zero_add] at this
  rw [this]
  show E.1 + 0 + (n + q) = _
  omega
theorem NW_nO (h : NW E [] A 0) {n ci : Nat} (hn : n < 900) (hc : ci ≤ 11) {T : Nat → aE} {st : List Value} : nO E (oh E (dR n) A T) ci st = some (.ref (A n) :: st, oh E (dR n ++ dR 1) A (su T n (.inr (ci, dfl ci)))) := by
  have hl : (dR n).length = n := by unfold dR; simp
  have e := (NW_0 h hn).push (S := T) (n := 0) (e := .inr (ci, dfl ci))
  have e0 : dR n ++ dR 0 = dR n := by unfold dR; simp
  rw [e0, Nat.add_zero] at e
  unfold nO
  rw [oh_len, hl, if_neg (by unfold lim; omega), e]
  have := h.2.2.1 n
  rw [Nat.zero_add] at this
  rw [this]
  rfl
theorem N0_hg (h : NW E [] A 0) {n k : Nat} {T : Nat → aE} (hk : k < n) : hg E (oh E (dR n) A T) (A k) = some (T k) := NW_hg h (n := n) (by omega)
theorem N0_hs (h : NW E [] A 0) {n k : Nat} {T : Nat → aE} {e : aE} (hk : k < n) : hs E (oh E (dR n) A T) (A k) e = oh E (dR n) A (su T k e) := NW_hs h (n := n) (by omega)
theorem N0_nR (h : NW E [] A 0) {n t w : Nat} {x : Int32} (hx : x = nI w) {obj : aE} {f : Nat → aE} {r : List Value} (hn : 1 ≤ n) (hn2 : n < 900) (hw : w ≤ 5000) (hf : .inl (t, aZ t w) = f n) : nR E (oh E (dR n) A (pS S 0 n obj f)) t (.int x :: r) = some (.ref (A n) :: r, oh E (dR (n + 1)) A (pS S 0 (n + 1) obj f)) := by
  have := NV_nR (S := S) h hx (obj := obj) (f := f) (r := r) hn (show 0 + n < 1000 by omega) hw hf
  rw [Nat.zero_add] at this
  exact this
theorem x144_1 {ah : aHp} {a0 a1 : Option Value} {p : Nat} {Q : Option Value → aHp → Prop} : WP E (c + 1) 144 1 [a0, a1] [.ref p] ah Q = WP E (c + 1) 144 4 [a0, a1] [] ah Q := wp_xt (q := ([], ah)) i144_1 rfl rfl rfl (Nat.le_add_left 1 c) (by show wds ([] : List Value) ≤ 8; decide)
/-- the trays, one after the other -/
theorem l_kt (h : NW E [] A 0) {eC tL st : Int32} : ∀ z i, i + z = 4 → WP E (c + 2) 144 130 [some (.ref (A 0)), some (.int (nI i))] [] (oh E (dR (73 + 2 * i)) A (pS S 0 (73 + 2 * i) (xO A 61 67 0 eC tL st) (Sg A i))) (fun r x => r = none ∧ x = oh E (dR 81) A (pS S 0 81 (xO A 61 67 0 eC tL st) (S0 A)))
  | 0, i, hz => by
    rw [show i = 4 by omega, r144_130]
    simp (disch := first | assumption | omega | decide | (simp only [List.length_cons, List.length_nil, Nat.reduceAdd, Nat.reduceLT]; done) | fail) only [r144_131, r144_132, r144_154, Sg_4, oGF_is, WPo_some, List.getElem?_cons_succ, List.getElem?_cons_zero, kil_n, kil_i, kil_a, kil_u, kil_l, Option.toList_some, Option.toList_none, List.cons_append, List.nil_append, List.set_cons_succ, List.set_cons_zero, addm1, Nat.reduceAdd, List.length_cons, List.length_nil, Nat.reduceLT, nI_clamp, nI_toInt, nI_leL, nI_Lle, nI_ltL, nI_Llt, nI_eqL, nI_Leq, nI_leE, nI_ltE, nI_eqE, nI_eqM, nI_add, nI_addL, nI_Ladd, nI_mulL, nI_Lmul, pk_mul, pk_sub, nI_subL, nI_Lsub, i2l_nI, Int.toNat_natCast, Nat.not_lt_zero, Nat.zero_le, ifT, ifF, not_true_eq_false, not_false_eq_true, if_true, if_false, or_self, and_self, true_and, and_true, or_true, true_or, false_or, or_false, false_and, and_false]
  | z + 1, i, hz => by
    have ih := l_kt h (eC := eC) (tL := tL) (st := st) z (i + 1) (by omega)
    have hg0 : ∀ T, hg E (oh E (dR (73 + 2 * i)) A T) (A 0) = some (T 0) := fun T => N0_hg h (by omega)
    have k1 := k_132 (c := c) (S := pS S 0 (73 + 2 * i) (xO A 61 67 0 eC tL st) (Sg A i)) (NW_0 h (n := 73 + 2 * i) (by omega)) (by unfold dR; simp; omega) (F := fun j => Sg A i (73 + 2 * i + j)) (by
      show _ = Sg A i (73 + 2 * i + 1)
      unfold Sg
      rw [su_ne (by omega)]
      unfold S0
      repeat rw [if_neg (by omega)]
      rfl)
    have e9 : Sum.inr (9, [Value.ref (A (73 + 2 * i + 1)), Value.int (-1), Value.int 0]) = Sg A i (73 + 2 * i) := by
      unfold Sg
      rw [su_ne (by omega)]
      unfold S0
      iterate 20 rw [if_neg (by omega)]
      rw [if_pos (by omega)]
    rw [e9, dR_dR (m := 2), pS_pS (by omega) (by omega)] at k1
    have g1 : hg E (oh E (dR (73 + 2 * i + 2)) A (pS S 0 (73 + 2 * i + 2) (xO A 61 67 0 eC tL st) (Sg A i))) (A 1) = some (trw A i) := (N0_hg h (by omega)).trans (by
      unfold pS
      rw [if_neg (by decide), if_pos (by omega)]
      rfl)
    have g2 : hg E (oh E (dR (73 + 2 * i + 2)) A (pS S 0 (73 + 2 * i + 2) (xO A 61 67 0 eC tL st) (Sg A i))) (A (73 + 2 * i)) = some (.inr (9, [Value.ref (A (73 + 2 * i + 1)), Value.int (-1), Value.int 0])) := (N0_hg h (by omega)).trans (by
      rw [e9]
      unfold pS
      rw [if_neg (by omega), if_pos (by omega)]
      rfl)
    have s1 : hs E (oh E (dR (73 + 2 * i + 2)) A (pS S 0 (73 + 2 * i + 2) (xO A 61 67 0 eC tL st) (Sg A i))) (A 1) (trw A (i + 1)) = oh E (dR (73 + 2 * (i + 1))) A (pS S 0 (73 + 2 * (i + 1)) (xO A 61 67 0 eC tL st) (Sg A (i + 1))) := (N0_hs h (by omega)).trans (by
      rw [show 73 + 2 * (i + 1) = 73 + 2 * i + 2 by omega]
      congr 1
      funext k
      unfold su pS
      by_cases k1 : k = 1
      · rw [if_pos k1, k1, if_neg (by decide), if_pos (by omega)]
        rfl
      · rw [if_neg k1]
        split
        · rfl
        · split
          · show Sg A i (k - 0) = Sg A (i + 1) (k - 0)
            unfold Sg
            rw [su_ne (by omega), su_ne (by omega)]
          · rfl)
    have pa : ∀ r, pA E (oh E (dR (73 + 2 * i + 2)) A (pS S 0 (73 + 2 * i + 2) (xO A 61 67 0 eC tL st) (Sg A i))) (.ref (A (73 + 2 * i)) :: .int (nI i) :: .ref (A 1) :: r) = some (r, oh E (dR (73 + 2 * (i + 1))) A (pS S 0 (73 + 2 * (i + 1)) (xO A 61 67 0 eC tL st) (Sg A (i + 1)))) := by
      intro r
      unfold pA
      dsimp only
      rw [g1, g2]
      unfold trw
      dsimp only
      rw [if_neg, nI_clamp (by omega)]
      · have e : (Sum.inl (4, 4, Sum.inr (Sum.inr (Sum.inr (Sum.inr (va_up (fun j => if j < i then some (A (73 + 2 * j)) else none) i (some (A (73 + 2 * i)))))))) : aE) = trw A (i + 1) := by
          unfold trw
          refine congrArg (fun g => (Sum.inl (4, 4, Sum.inr (Sum.inr (Sum.inr (Sum.inr g)))) : aE)) (funext fun j => ?_)
          unfold va_up
          by_cases hj : j = i
          · simp [hj]
          · by_cases h2 : j < i
            · simp [hj, h2, show j < i + 1 by omega]
            · simp [hj, h2, show ¬ j < i + 1 by omega]
        rw [e, s1]
      · rw [nI_clamp (by omega), nI_ltL (by omega) (by decide)]
        simp only [not_or]
        exact ⟨by decide, by decide, fun z => z (by decide), by omega, by omega⟩
    have no := fun st' => NW_nO h (n := 73 + 2 * i) (ci := 9) (by omega) (by decide) (T := pS S 0 (73 + 2 * i) (xO A 61 67 0 eC tL st) (Sg A i)) (st := st')
    have hX : hg E (oh E (dR (73 + 2 * i)) A (pS S 0 (73 + 2 * i) (xO A 61 67 0 eC tL st) (Sg A i))) (A 0) = some (.inr (10, [.ref (A 1), .ref (A 2), .ref (A 3), .ref (A 8), .ref (A 13), .ref (A 14), .ref (A 16), .ref (A 19), .ref (A 46), .ref (A 54), .ref (A 61), .ref (A 67), .int 0, .int eC, .int tL, .int st])) := (hg0 _).trans (by rw [pS_K]; rfl)
    rw [r144_130]
    simp (disch := first | assumption | omega | decide | (simp only [List.length_cons, List.length_nil, Nat.reduceAdd, Nat.reduceLT]; done) | fail) only [r144_131, r144_132, r144_135, r144_136, r144_139, r144_140, r144_143, r144_143i, hX, no, q144_144 k1, r144_147, r144_148, r144_151, pa, oGF_is, WPo_some, List.getElem?_cons_succ, List.getElem?_cons_zero, kil_n, kil_i, kil_a, kil_u, kil_l, Option.toList_some, Option.toList_none, List.cons_append, List.nil_append, List.set_cons_succ, List.set_cons_zero, addm1, Nat.reduceAdd, List.length_cons, List.length_nil, Nat.reduceLT, nI_clamp, nI_toInt, nI_leL, nI_Lle, nI_ltL, nI_Llt, nI_eqL, nI_Leq, nI_leE, nI_ltE, nI_eqE, nI_eqM, nI_add, nI_addL, nI_Ladd, nI_mulL, nI_Lmul, pk_mul, pk_sub, nI_subL, nI_Lsub, i2l_nI, Int.toNat_natCast, Nat.not_lt_zero, Nat.zero_le, ifT, ifF, not_true_eq_false, not_false_eq_true, if_true, if_false, or_self, and_self, true_and, and_true, or_true, true_or, false_or, or_false, false_and, and_false]
    exact ih
end KX

/-! The class' cards: the call -/
section CDO
variable {T : Nat → Int32} {n : Nat}
theorem clB_2 {x : Nat} (h : clB x = 2) : 48 ≤ x ∧ x ≤ 57 := by
  unfold clB at h
  split at h
  · omega
  · split at h
    · assumption
    · split at h
      · omega
      · split at h <;> omega
theorem exF_in {k : Nat} : ∀ z p j, p ≤ j → j < exF T k z p → clB (bt T j) = k
  | 0, p, j, h1, h2 => by
    unfold exF at h2
    omega
  | z + 1, p, j, h1, h2 => by
    unfold exF at h2
    split at h2
    · next h =>
      by_cases y : j = p
      · rw [y]; exact h
      · exact exF_in z (p + 1) j (by omega) h2
    · omega
theorem vaL_bd {e : Nat} (he : ∀ i, i < e → True) : ∀ z i k a, (∀ j, i ≤ j → j < i + z → clB (bt T j) = 2) → (∃ y : Nat, a = lN y ∧ y < 10 ^ k) → ∃ y : Nat, vaL T z i a = lN y ∧ y < 10 ^ (k + z)
  | 0, i, k, a, _, h => h
  | z + 1, i, k, a, hd, ⟨y, e1, e2⟩ => by
    have d := clB_2 (hd i (by omega) (by omega))
    have st : a * 10 + lN (bt T i) - 48 = lN (y * 10 + (bt T i - 48)) := by
      rw [e1, show (10 : Int64) = lN 10 from rfl, show (48 : Int64) = lN 48 from rfl, lN_iL, lN_iL, lN_iL, lN_iL, lN_iL, iL_mul, iL_add, iL_sub]
      congr 1
      omega
    have ih := vaL_bd he z (i + 1) (k + 1) (a * 10 + lN (bt T i) - 48) (fun j h1 h2 => hd j (by omega) (by omega)) ⟨_, st, by rw [Nat.pow_succ]; omega⟩
    rw [show k + (z + 1) = k + 1 + z by omega]
    exact ih
theorem nxV_n {p : Nat} : ∃ y : Nat, nxV T n p = lN y ∧ y ≤ 999999999999 := by
  unfold nxV
  split
  · next h =>
    unfold nxT at h
    split at h
    · omega
    · next h2 =>
      have hl : ¬ 12 < nxE T n p - nxS T n p := fun z => h2 ⟨h, z⟩
      have hE : nxE T n p = exF T 2 (n - (nxS T n p + 1)) (nxS T n p + 1) := by
        unfold nxE
        rw [if_neg (by omega), if_pos (Or.inr h), h]
      have h0 : clB (bt T (nxS T n p)) = 2 := by
        have h' := h
        unfold nxC cl at h'
        split at h'
        · exact h'
        · omega
      obtain ⟨y, e1, e2⟩ := vaL_bd (T := T) (e := 0) (fun _ _ => trivial) (nxE T n p - nxS T n p) (nxS T n p) 0 0 (fun j h1 h3 => by
        by_cases y : j = nxS T n p
        · rw [y]; exact h0
        · refine exF_in (n - (nxS T n p + 1)) (nxS T n p + 1) j (by omega) ?_
          rw [← hE]
          omega) ⟨0, rfl, by decide⟩
      refine ⟨y, e1, ?_⟩
      have : 10 ^ (0 + (nxE T n p - nxS T n p)) ≤ 10 ^ 12 := Nat.pow_le_pow_right (by decide) (by omega)
      omega
  · exact ⟨0, rfl, by omega⟩
theorem nxV_bd {p : Nat} : bdI (nxV T n p) 999999999999 := by
  obtain ⟨y, e1, e2⟩ := nxV_n (T := T) (n := n) (p := p)
  rw [e1]
  exact bdI_n e2
theorem rdW_bd {s : aPs} : bdI (rdW T n s).1 999999999999 := by
  unfold rdW
  split
  · obtain ⟨z, e1, e2⟩ := nxV_bd (T := T) (n := n) (p := nxE T n s.1)
    exact ⟨-z, by show - nxV T n (nxE T n s.1) = _; rw [e1, iL_neg], by omega⟩
  · exact nxV_bd
theorem rdP_19 : ∀ z i s f, (∀ j, f j ≤ 19) → ∀ j, (rdP T n z i s f).1 j ≤ 19
  | 0, _, _, _, h => h
  | z + 1, i, s, f, h => by
    unfold rdP
    split
    · refine rdP_19 z _ _ _ (fun j => ?_)
      unfold fnu
      split
      · exact rdN_19
      · exact h j
    · exact h
theorem rdJ_2 {s : aPs} : (rdJ T n s).1 ≤ 2 := by
  unfold rdJ rdI
  repeat' split
  all_goals first | exact (show 0 ≤ 2 by decide) | exact (show 1 ≤ 2 by decide) | exact (show 2 ≤ 2 by decide)
theorem bdI_0 : bdI 0 999999999999 := ⟨0, rfl, by decide⟩
theorem rdC_ok {p : Nat} (hk : ¬ kdN T n p = 8) : cdOK (rdC T n p).2 := by
  have h8 := kdN_le (T := T) (n := n) (p := p)
  unfold rdC
  split
  · next h => exact ⟨by show kdN T n p ≤ 7; omega, rdJ_2, fun j => rdN_19, fun z => absurd (show kdN T n p ≤ 5 from z) (by omega), bdI_0⟩
  · split
    · exact ⟨by show 0 ≤ 7; decide, by show 0 ≤ 2; decide, fun j => Nat.le_trans (rdP_19 (T := T) (n := n) 1 0 (gon (nxE T n p)) (fun _ => 0) (fun _ => Nat.zero_le _) j) (show 19 ≤ 40 by decide), fun _ j => rdP_19 (T := T) (n := n) 1 0 (gon (nxE T n p)) (fun _ => 0) (fun _ => Nat.zero_le _) j, rdW_bd⟩
    · exact ⟨by show kdN T n p ≤ 7; omega, by show 0 ≤ 2; decide, fun j => Nat.le_trans (rdP_19 (T := T) (n := n) (plc (kdN T n p)) 0 (gon (nxE T n p)) (fun _ => 0) (fun _ => Nat.zero_le _) j) (show 19 ≤ 40 by decide), fun _ j => rdP_19 (T := T) (n := n) (plc (kdN T n p)) 0 (gon (nxE T n p)) (fun _ => 0) (fun _ => Nat.zero_le _) j, bdI_0⟩
theorem kd_word {p : Nat} (hk : ¬ kdN T n p = 8) : nxT T n p = 1 := by
  by_cases y : nxT T n p = 1
  · exact y
  · exfalso
    apply hk
    unfold kdN wdP
    simp [y]
end CDO
section RAX
variable {E : aEnv} {c : Nat} {ah : aHp} {A : Nat → Nat} {S : Nat → aE} {T : Nat → Int32} {n b cn : Nat} {kd wn nm ls : Nat → Int32} {wl : Nat → Int64}
theorem c_readCard_k (hO : XO E ah A) (hE : StE E) (h13 : S 13 = .inl (2, 500, .inl T)) (hn : n ≤ 500) (hb : 61 ≤ b ∧ b ≤ 67) {p : Nat} (hp : p ≤ n) (hk : kdN T n p = 8) : EV E (c + 9) 2 [.ref (A 14), .ref (A b)] (oh E ah A (su (dk A S b kd wn nm ls wl cn) 14 (rP A T n (gon p)))) none (oh E ah A (su (dk A S b kd wn nm ls wl cn) 14 (rP A T n (flt T n p 2)))) := by
  refine e2 ?_
  have hD : dk A S b kd wn nm ls wl cn 13 = .inl (2, 500, .inl T) := by rw [dk_ne (by omega), h13]
  have k0 := c_cardKind (E := E) (c := c + 1) (S := dk A S b kd wn nm ls wl cn) hO hE hD hn (s := gon p) hp
  rw [show (gon p).1 = p from rfl, if_pos hk] at k0
  have ci := rP_ci (E := E) (S := dk A S b kd wn nm ls wl cn) (T := T) (n := n) (s := gon p) hO
  have k2 := c_refuse (E := E) (c := c + 8) (S := dk A S b kd wn nm ls wl cn) (T := T) (n := n) hO (p := p) (k := 2)
  rw [show nI 2 = (2 : Int32) from rfl] at k2
  simp (disch := first | assumption | omega | decide | (simp only [List.length_cons, List.length_nil, Nat.reduceAdd, Nat.reduceLT]; done) | fail) only [r2_0, r2_4, r2_5, r2_6, r2_7, r2_10, r2_11, r2_15, q2_1 k0 ci, q2_12 k2 ci, oGF_is, WPo_some, List.getElem?_cons_succ, List.getElem?_cons_zero, kil_n, kil_i, kil_a, kil_u, kil_l, Option.toList_some, Option.toList_none, List.cons_append, List.nil_append, List.set_cons_succ, List.set_cons_zero, addm1, Nat.reduceAdd, List.length_cons, List.length_nil, Nat.reduceLT, not_true_eq_false, not_false_eq_true, if_true, if_false, or_self, and_self, true_and, and_true, or_true, true_or, false_or, or_false, false_and, and_false]
theorem c_readCard_f (hO : XO E ah A) (hE : StE E) (h13 : S 13 = .inl (2, 500, .inl T)) (hn : n ≤ 500) (hb : 61 ≤ b ∧ b ≤ 67) {p : Nat} (hp : p ≤ n) (hk : ¬ kdN T n p = 8) : EV E (c + 9) 2 [.ref (A 14), .ref (A b)] (oh E ah A (su (dk A S b kd wn nm ls wl 40) 14 (rP A T n (gon p)))) none (oh E ah A (su (dk A S b kd wn nm ls wl 40) 14 (rP A T n (flt T n p 3)))) := by
  refine e2 ?_
  have h8 := kdN_le (T := T) (n := n) (p := p)
  have hD : dk A S b kd wn nm ls wl 40 13 = .inl (2, 500, .inl T) := by rw [dk_ne (by omega), h13]
  have k0 := c_cardKind (E := E) (c := c + 1) (S := dk A S b kd wn nm ls wl 40) hO hE hD hn (s := gon p) hp
  rw [show (gon p).1 = p from rfl, if_neg hk] at k0
  have ci := rP_ci (E := E) (S := dk A S b kd wn nm ls wl 40) (T := T) (n := n) (s := gon p) hO
  have kF := c_isFull (E := E) (c := c + 8) (S := S) (kd := kd) (wn := wn) (nm := nm) (ls := ls) (wl := wl) (X := rP A T n (gon p)) hO hb (show 40 ≤ 40 by omega)
  have k2 := c_refuse (E := E) (c := c + 8) (S := dk A S b kd wn nm ls wl 40) (T := T) (n := n) hO (p := p) (k := 3)
  rw [show nI 3 = (3 : Int32) from rfl] at k2
  simp (disch := first | assumption | omega | decide | (simp only [List.length_cons, List.length_nil, Nat.reduceAdd, Nat.reduceLT]; done) | fail) only [r2_0, r2_4, r2_5, r2_6, r2_7, r2_10, r2_11, r2_15, r2_16, r2_16n, r2_20, r2_23, r2_24, r2_28, q2_1 k0 ci, q2_17 kF (dk_ci hO hb), q2_25 k2 ci, b2i_eq0, oGF_is, WPo_some, List.getElem?_cons_succ, List.getElem?_cons_zero, kil_n, kil_i, kil_a, kil_u, kil_l, Option.toList_some, Option.toList_none, List.cons_append, List.nil_append, List.set_cons_succ, List.set_cons_zero, addm1, Nat.reduceAdd, List.length_cons, List.length_nil, Nat.reduceLT, nI_clamp, nI_toInt, nI_leL, nI_Lle, nI_ltL, nI_Llt, nI_eqL, nI_Leq, nI_leE, nI_ltE, nI_eqE, nI_eqM, nI_add, nI_addL, nI_Ladd, nI_mulL, nI_Lmul, pk_mul, pk_sub, nI_subL, nI_Lsub, i2l_nI, Int.toNat_natCast, Nat.not_lt_zero, Nat.zero_le, ifT, ifF, not_true_eq_false, not_false_eq_true, if_true, if_false, or_self, and_self, true_and, and_true, or_true, true_or, false_or, or_false, false_and, and_false]
theorem l_raX (hO : XO E ah A) (hb : 61 ≤ b ∧ b ≤ 67) {l1 l2 : Option Value} {i : Nat} (hi : i ≤ 41) {s : aPs} (hs : okP n s) (hf : ¬ s.2.1 = 0) {Q : Option Value → aHp → Prop} (K : WP E c 1 74 [some (.ref (A 14)), l1, l2, some (.ref (A b)), some (.int (nI i))] [] (oh E ah A (su (dk A S b kd wn nm ls wl cn) 14 (rP A T n s))) Q) : WP E c 1 42 [some (.ref (A 14)), l1, l2, some (.ref (A b)), some (.int (nI i))] [] (oh E ah A (su (dk A S b kd wn nm ls wl cn) 14 (rP A T n s))) Q := by
  have g0 : hg E (oh E ah A (su (dk A S b kd wn nm ls wl cn) 14 (rP A T n s))) (A 14) = some (.inr (0, [.ref (A 13), .int (nI n), .int (nI (nxE T n s.1)), .int (nI (nxT T n s.1)), .int (nI (nxS T n s.1)), .long (nxV T n s.1), .int (nI s.2.1), .int s.2.2])) := by rw [hx_14 hO, su_at]; rfl
  have ok2 := hs.2.1
  rw [r1_42]
  by_cases y : i = 41
  · subst y
    simp (disch := first | assumption | omega | decide | (simp only [List.length_cons, List.length_nil, Nat.reduceAdd, Nat.reduceLT]; done) | fail) only [r1_44, r1_46, oGF_is, WPo_some, List.getElem?_cons_succ, List.getElem?_cons_zero, kil_n, kil_i, kil_a, kil_u, kil_l, Option.toList_some, Option.toList_none, List.cons_append, List.nil_append, List.set_cons_succ, List.set_cons_zero, addm1, Nat.reduceAdd, List.length_cons, List.length_nil, Nat.reduceLT, nI_clamp, nI_toInt, nI_leL, nI_Lle, nI_ltL, nI_Llt, nI_eqL, nI_Leq, nI_leE, nI_ltE, nI_eqE, nI_eqM, nI_add, nI_addL, nI_Ladd, nI_mulL, nI_Lmul, pk_mul, pk_sub, nI_subL, nI_Lsub, i2l_nI, Int.toNat_natCast, Nat.not_lt_zero, Nat.zero_le, ifT, ifF, not_true_eq_false, not_false_eq_true, if_true, if_false, or_self, and_self, true_and, and_true, or_true, true_or, false_or, or_false, false_and, and_false]
    exact K
  · simp (disch := first | assumption | omega | decide | (simp only [List.length_cons, List.length_nil, Nat.reduceAdd, Nat.reduceLT]; done) | fail) only [r1_44, r1_46, r1_49, r1_50, r1_53, g0, hf, oGF_is, WPo_some, List.getElem?_cons_succ, List.getElem?_cons_zero, kil_n, kil_i, kil_a, kil_u, kil_l, Option.toList_some, Option.toList_none, List.cons_append, List.nil_append, List.set_cons_succ, List.set_cons_zero, addm1, Nat.reduceAdd, List.length_cons, List.length_nil, Nat.reduceLT, nI_clamp, nI_toInt, nI_leL, nI_Lle, nI_ltL, nI_Llt, nI_eqL, nI_Leq, nI_leE, nI_ltE, nI_eqE, nI_eqM, nI_add, nI_addL, nI_Ladd, nI_mulL, nI_Lmul, pk_mul, pk_sub, nI_subL, nI_Lsub, i2l_nI, Int.toNat_natCast, Nat.not_lt_zero, Nat.zero_le, ifT, ifF, not_true_eq_false, not_false_eq_true, if_true, if_false, or_self, and_self, true_and, and_true, or_true, true_or, false_or, or_false, false_and, and_false]
    exact K
theorem l_ra (hO : XO E ah A) (hE : StE E) (h13 : S 13 = .inl (2, 500, .inl T)) (hn : n ≤ 500) (hb : 61 ≤ b ∧ b ≤ 67) {l1 l2 : Option Value} {Q : Option Value → aHp → Prop} : ∀ z cn (D : Nat → aCd) s kd wn nm ls wl, cn + z = 41 → cn ≤ 40 → okP n s → s.2.1 = 0 → (∀ i, i < cn → dkI kd wn nm ls wl i (D i) ∧ cdOK (D i)) → (∀ kd' wn' nm' ls' wl' cn' l4, cn' ≤ 40 → ((rdA T n z cn D s).2.2.2.1 = 0 → cn' = (rdA T n z cn D s).1 ∧ ∀ i, i < cn' → dkI kd' wn' nm' ls' wl' i ((rdA T n z cn D s).2.1 i) ∧ cdOK ((rdA T n z cn D s).2.1 i)) → okP n (rdA T n z cn D s).2.2 → WP E (c + 10) 1 74 [some (.ref (A 14)), l1, l2, some (.ref (A b)), l4] [] (oh E ah A (su (dk A S b kd' wn' nm' ls' wl' cn') 14 (rP A T n (rdA T n z cn D s).2.2))) Q) → WP E (c + 10) 1 42 [some (.ref (A 14)), l1, l2, some (.ref (A b)), some (.int (nI cn))] [] (oh E ah A (su (dk A S b kd wn nm ls wl cn) 14 (rP A T n s))) Q
  | 0, cn, D, s, kd, wn, nm, ls, wl, hz, hc, hs, hf, hD, K => absurd hz (by omega)
  | z + 1, cn, D, s, kd, wn, nm, ls, wl, hz, hc, hs, hf, hD, K => by
    have g0 : hg E (oh E ah A (su (dk A S b kd wn nm ls wl cn) 14 (rP A T n s))) (A 14) = some (.inr (0, [.ref (A 13), .int (nI n), .int (nI (nxE T n s.1)), .int (nI (nxT T n s.1)), .int (nI (nxS T n s.1)), .long (nxV T n s.1), .int (nI s.2.1), .int s.2.2])) := by rw [hx_14 hO, su_at]; rfl
    have ok2 := hs.2.1
    have t5 := nxT_le (T := T) (n := n) (p := s.1)
    have eg : gon s.1 = s := by
      have := hs.2.2 hf
      obtain ⟨p', fa, fp⟩ := s
      dsimp only at hf this
      rw [hf, this]
      rfl
    have ci := rP_ci (E := E) (S := dk A S b kd wn nm ls wl cn) (T := T) (n := n) (s := s) hO
    unfold rdA at K
    by_cases y : nxT T n s.1 = 0
    · rw [if_neg (fun w => w.2 y)] at K
      have K := K kd wn nm ls wl cn (some (.int (nI cn))) hc (fun _ => ⟨rfl, hD⟩) hs
      rw [r1_42]
      simp (disch := first | assumption | omega | decide | (simp only [List.length_cons, List.length_nil, Nat.reduceAdd, Nat.reduceLT]; done) | fail) only [r1_44, r1_46, r1_49, r1_50, r1_53, r1_56, r1_57, r1_60, g0, eq_true hf, eq_true y, oGF_is, WPo_some, List.getElem?_cons_succ, List.getElem?_cons_zero, kil_n, kil_i, kil_a, kil_u, kil_l, Option.toList_some, Option.toList_none, List.cons_append, List.nil_append, List.set_cons_succ, List.set_cons_zero, addm1, Nat.reduceAdd, List.length_cons, List.length_nil, Nat.reduceLT, nI_clamp, nI_toInt, nI_leL, nI_Lle, nI_ltL, nI_Llt, nI_eqL, nI_Leq, nI_leE, nI_ltE, nI_eqE, nI_eqM, nI_add, nI_addL, nI_Ladd, nI_mulL, nI_Lmul, pk_mul, pk_sub, nI_subL, nI_Lsub, i2l_nI, Int.toNat_natCast, Nat.not_lt_zero, Nat.zero_le, ifT, ifF, not_true_eq_false, not_false_eq_true, if_true, if_false, or_self, and_self, true_and, and_true, or_true, true_or, false_or, or_false, false_and, and_false]
      exact K
    · rw [if_pos ⟨hf, y⟩] at K
      by_cases hk : kdN T n s.1 = 8
      · rw [if_pos hk] at K
        have K := K kd wn nm ls wl cn (some (.int (nI (cn + 1)))) hc (fun w => absurd w (flt_ne (by decide) (by decide))) (ok_flt hs.1 (by decide) (by decide))
        have k := c_readCard_k (E := E) (c := c) (kd := kd) (wn := wn) (nm := nm) (ls := ls) (wl := wl) (cn := cn) hO hE h13 hn hb hs.1 hk
        rw [eg] at k
        have x := l_raX (c := c + 10) (l1 := l1) (l2 := l2) hO hb (show cn + 1 ≤ 41 by omega) (ok_flt hs.1 (by decide) (by decide)) (flt_ne (by decide) (by decide)) K
        rw [r1_42]
        simp (disch := first | assumption | omega | decide | (simp only [List.length_cons, List.length_nil, Nat.reduceAdd, Nat.reduceLT]; done) | fail) only [r1_44, r1_46, r1_49, r1_50, r1_53, r1_56, r1_57, r1_60, r1_63, r1_64, r1_64n, r1_68, r1_71, g0, q1_65 k ci, eq_true hf, y, oGF_is, WPo_some, List.getElem?_cons_succ, List.getElem?_cons_zero, kil_n, kil_i, kil_a, kil_u, kil_l, Option.toList_some, Option.toList_none, List.cons_append, List.nil_append, List.set_cons_succ, List.set_cons_zero, addm1, Nat.reduceAdd, List.length_cons, List.length_nil, Nat.reduceLT, nI_clamp, nI_toInt, nI_leL, nI_Lle, nI_ltL, nI_Llt, nI_eqL, nI_Leq, nI_leE, nI_ltE, nI_eqE, nI_eqM, nI_add, nI_addL, nI_Ladd, nI_mulL, nI_Lmul, pk_mul, pk_sub, nI_subL, nI_Lsub, i2l_nI, Int.toNat_natCast, Nat.not_lt_zero, Nat.zero_le, ifT, ifF, not_true_eq_false, not_false_eq_true, if_true, if_false, or_self, and_self, true_and, and_true, or_true, true_or, false_or, or_false, false_and, and_false]
        exact x
      · rw [if_neg hk] at K
        by_cases h40 : cn = 40
        · rw [if_pos h40] at K
          subst h40
          have K := K kd wn nm ls wl 40 (some (.int (nI (40 + 1)))) hc (fun w => absurd w (flt_ne (by decide) (by decide))) (ok_flt hs.1 (by decide) (by decide))
          have k := c_readCard_f (E := E) (c := c) (kd := kd) (wn := wn) (nm := nm) (ls := ls) (wl := wl) hO hE h13 hn hb hs.1 hk
          rw [eg] at k
          have x := l_raX (c := c + 10) (l1 := l1) (l2 := l2) hO hb (show 40 + 1 ≤ 41 by omega) (ok_flt hs.1 (by decide) (by decide)) (flt_ne (by decide) (by decide)) K
          rw [r1_42]
          simp (disch := first | assumption | omega | decide | (simp only [List.length_cons, List.length_nil, Nat.reduceAdd, Nat.reduceLT]; done) | fail) only [r1_44, r1_46, r1_49, r1_50, r1_53, r1_56, r1_57, r1_60, r1_63, r1_64, r1_64n, r1_68, r1_71, g0, q1_65 k ci, eq_true hf, y, oGF_is, WPo_some, List.getElem?_cons_succ, List.getElem?_cons_zero, kil_n, kil_i, kil_a, kil_u, kil_l, Option.toList_some, Option.toList_none, List.cons_append, List.nil_append, List.set_cons_succ, List.set_cons_zero, addm1, Nat.reduceAdd, List.length_cons, List.length_nil, Nat.reduceLT, nI_clamp, nI_toInt, nI_leL, nI_Lle, nI_ltL, nI_Llt, nI_eqL, nI_Leq, nI_leE, nI_ltE, nI_eqE, nI_eqM, nI_add, nI_addL, nI_Ladd, nI_mulL, nI_Lmul, pk_mul, pk_sub, nI_subL, nI_Lsub, i2l_nI, Int.toNat_natCast, Nat.not_lt_zero, Nat.zero_le, ifT, ifF, not_true_eq_false, not_false_eq_true, if_true, if_false, or_self, and_self, true_and, and_true, or_true, true_or, false_or, or_false, false_and, and_false]
          exact x
        · rw [if_neg h40] at K
          obtain ⟨kd', wn', nm', ls', wl', k, k2, k3⟩ := c_readCard (E := E) (c := c) (kd := kd) (wn := wn) (nm := nm) (ls := ls) (wl := wl) hO hE h13 hn hb (show cn < 40 by omega) hs.1 hk
          rw [eg] at k
          have okC := ok_rdC (T := T) hs.1
          by_cases hf2 : (rdC T n s.1).1.2.1 = 0
          · rw [if_pos hf2] at K
            have ih := l_ra hO hE h13 hn hb (l1 := l1) (l2 := l2) (Q := Q) z (cn + 1) (fnu D cn (rdC T n s.1).2) (rdC T n s.1).1 kd' wn' nm' ls' wl' (by omega) (by omega) okC hf2 (fun i hi => by
              by_cases w : i = cn
              · subst w
                rw [show fnu D i (rdC T n s.1).2 i = (rdC T n s.1).2 from if_pos rfl]
                exact ⟨k3 hf2, rdC_ok hk⟩
              · rw [show fnu D cn (rdC T n s.1).2 i = D i from if_neg w]
                obtain ⟨⟨d1, d2, d3, d4, d5⟩, o⟩ := hD i (by omega)
                obtain ⟨f1, f2, f3, f4, f5⟩ := k2 i (by omega)
                have p4 := plc_le (k := (D i).1)
                exact ⟨⟨by rw [f1, d1], by rw [f2, d2], fun j hj => by rw [f5 j (by omega), d3 j hj], fun w => ⟨by rw [show 4 * i = 4 * i + 0 from rfl, f5 0 (by decide)]; exact (d4 w).1, by rw [f3]; exact (d4 w).2⟩, fun w => by rw [f4, d5 w]⟩, o⟩) K
            rw [r1_42]
            simp (disch := first | assumption | omega | decide | (simp only [List.length_cons, List.length_nil, Nat.reduceAdd, Nat.reduceLT]; done) | fail) only [r1_44, r1_46, r1_49, r1_50, r1_53, r1_56, r1_57, r1_60, r1_63, r1_64, r1_64n, r1_68, r1_71, g0, q1_65 k ci, eq_true hf, y, oGF_is, WPo_some, List.getElem?_cons_succ, List.getElem?_cons_zero, kil_n, kil_i, kil_a, kil_u, kil_l, Option.toList_some, Option.toList_none, List.cons_append, List.nil_append, List.set_cons_succ, List.set_cons_zero, addm1, Nat.reduceAdd, List.length_cons, List.length_nil, Nat.reduceLT, nI_clamp, nI_toInt, nI_leL, nI_Lle, nI_ltL, nI_Llt, nI_eqL, nI_Leq, nI_leE, nI_ltE, nI_eqE, nI_eqM, nI_add, nI_addL, nI_Ladd, nI_mulL, nI_Lmul, pk_mul, pk_sub, nI_subL, nI_Lsub, i2l_nI, Int.toNat_natCast, Nat.not_lt_zero, Nat.zero_le, ifT, ifF, not_true_eq_false, not_false_eq_true, if_true, if_false, or_self, and_self, true_and, and_true, or_true, true_or, false_or, or_false, false_and, and_false]
            exact ih
          · rw [if_neg hf2] at K
            have K := K kd' wn' nm' ls' wl' (cn + 1) (some (.int (nI (cn + 1)))) (by omega) (fun w => absurd w hf2) okC
            have x := l_raX (c := c + 10) (l1 := l1) (l2 := l2) hO hb (show cn + 1 ≤ 41 by omega) okC hf2 K
            rw [r1_42]
            simp (disch := first | assumption | omega | decide | (simp only [List.length_cons, List.length_nil, Nat.reduceAdd, Nat.reduceLT]; done) | fail) only [r1_44, r1_46, r1_49, r1_50, r1_53, r1_56, r1_57, r1_60, r1_63, r1_64, r1_64n, r1_68, r1_71, g0, q1_65 k ci, eq_true hf, y, oGF_is, WPo_some, List.getElem?_cons_succ, List.getElem?_cons_zero, kil_n, kil_i, kil_a, kil_u, kil_l, Option.toList_some, Option.toList_none, List.cons_append, List.nil_append, List.set_cons_succ, List.set_cons_zero, addm1, Nat.reduceAdd, List.length_cons, List.length_nil, Nat.reduceLT, nI_clamp, nI_toInt, nI_leL, nI_Lle, nI_ltL, nI_Llt, nI_eqL, nI_Leq, nI_leE, nI_ltE, nI_eqE, nI_eqM, nI_add, nI_addL, nI_Ladd, nI_mulL, nI_Lmul, pk_mul, pk_sub, nI_subL, nI_Lsub, i2l_nI, Int.toNat_natCast, Nat.not_lt_zero, Nat.zero_le, ifT, ifF, not_true_eq_false, not_false_eq_true, if_true, if_false, or_self, and_self, true_and, and_true, or_true, true_or, false_or, or_false, false_and, and_false]
            exact x
/-- what a whole reading gives -/
noncomputable def caD : Nat → aCd := fun _ => (0, 0, (fun _ => 0), 0, 0)
noncomputable def caA (T : Nat → Int32) (n : Nat) : Nat × (Nat → aCd) × aPs := rdA T n 41 0 caD (gon 0)
noncomputable def caS (T : Nat → Int32) (n : Nat) : aPs := if (caA T n).2.2.2.1 = 0 then ckS (caA T n).2.2.1 (ckL (caA T n).2.1 (caA T n).1 (caA T n).1 0) else (caA T n).2.2
theorem c_readAll (hO : XO E ah A) (hE : StE E) (h13 : S 13 = .inl (2, 500, .inl T)) (hn : n ≤ 500) (hb : 61 ≤ b ∧ b ≤ 67) {y1 : Nat} {y2 y3 y4 y5 y7 y8 : Int32} {y6 : Int64} : ∃ kd' wn' nm' ls' wl' cn', EV E (c + 11) 1 [.ref (A 14), .ref (A 13), .int (nI n), .ref (A b)] (oh E ah A (su (dk A S b kd wn nm ls wl cn) 14 (.inr (0, [.ref y1, .int y2, .int y3, .int y4, .int y5, .long y6, .int y7, .int y8])))) (some (.int (b2i ((caS T n).2.1 = 0)))) (oh E ah A (su (dk A S b kd' wn' nm' ls' wl' cn') 14 (rP A T n (caS T n)))) ∧ okP n (caS T n) ∧ cn' ≤ 40 ∧ ((caS T n).2.1 = 0 → cn' = (caA T n).1 ∧ ∀ i, i < cn' → dkI kd' wn' nm' ls' wl' i ((caA T n).2.1 i) ∧ cdOK ((caA T n).2.1 i)) := by
  obtain ⟨tk, rfl⟩ := nI_surj y4
  obtain ⟨st, rfl⟩ := nI_surj y5
  have em : (if Int32.ofNat 500 < nI n then Int32.ofNat 500 else nI n) = nI n := if_neg (by
    show ¬ nI 500 < nI n
    rw [nI_ltE (by omega) (by omega)]
    omega)
  have hD : ∀ kd wn nm ls wl cn, dk A S b kd wn nm ls wl cn 13 = .inl (2, 500, .inl T) := fun kd wn nm ls wl cn => by rw [dk_ne (by omega), h13]
  have kn := c_next (E := E) (c := c + 8) (S := dk A S b kd wn nm ls wl 0) hO (hD _ _ _ _ _ _) hn (p := 0) (Nat.zero_le _) (tk := tk) (st := st) (fa := 0) (vl := y6) (fp := -1)
  rw [show rT A T n 0 0 (-1) = rP A T n (gon 0) from rfl] at kn
  have ci : oCI (hg E (oh E ah A (su (dk A S b kd wn nm ls wl 0) 14 (rO A n 0 tk st y6 0 (-1)))) (A 14)) = 0 := by rw [hx_14 hO, su_at]; rfl
  let Q : Option Value → aHp → Prop := fun r x => r = some (.int (b2i ((caS T n).2.1 = 0))) ∧ ∃ kd' wn' nm' ls' wl' cn', x = oh E ah A (su (dk A S b kd' wn' nm' ls' wl' cn') 14 (rP A T n (caS T n))) ∧ okP n (caS T n) ∧ cn' ≤ 40 ∧ ((caS T n).2.1 = 0 → cn' = (caA T n).1 ∧ ∀ i, i < cn' → dkI kd' wn' nm' ls' wl' i ((caA T n).2.1 i) ∧ cdOK ((caA T n).2.1 i))
  have main := l_ra (c := c + 1) (kd := kd) (wn := wn) (nm := nm) (ls := ls) (wl := wl) hO hE h13 hn hb (l1 := some (.ref (A 13))) (l2 := some (.int (nI n))) (Q := Q) 41 0 caD (gon 0) (by omega) (by omega) (ok_gon (Nat.zero_le _)) rfl (fun i hi => absurd hi (by omega)) (fun kd' wn' nm' ls' wl' cn' l4 hc' hok hS => by
    have ea : rdA T n 41 0 caD (gon 0) = caA T n := rfl
    rw [ea] at hok hS ⊢
    have g0 : ∀ s, hg E (oh E ah A (su (dk A S b kd' wn' nm' ls' wl' cn') 14 (rP A T n s))) (A 14) = some (.inr (0, [.ref (A 13), .int (nI n), .int (nI (nxE T n s.1)), .int (nI (nxT T n s.1)), .int (nI (nxS T n s.1)), .long (nxV T n s.1), .int (nI s.2.1), .int s.2.2])) := fun s => by rw [hx_14 hO, su_at]; rfl
    have ok2 := hS.2.1
    by_cases y : (caA T n).2.2.2.1 = 0
    · have eS : caS T n = ckS (caA T n).2.2.1 (ckL (caA T n).2.1 (caA T n).1 (caA T n).1 0) := if_pos y
      obtain ⟨h1, h2⟩ := hok y
      have eg : gon (caA T n).2.2.1 = (caA T n).2.2 := by
        have := hS.2.2 y
        generalize (caA T n).2.2 = s at *
        obtain ⟨p', fa, fp⟩ := s
        dsimp only at y this
        rw [y, this]
        rfl
      have lk := l_ck (E := E) (c := c + 7) (S := S) (T := T) (n := n) hO hb hc' (D := (caA T n).2.1) h2 (p := (caA T n).2.2.1) cn' 0 (by omega)
      rw [eg] at lk
      have kk : EV E (c + 10) 9 [.ref (A 14), .ref (A b)] (oh E ah A (su (dk A S b kd' wn' nm' ls' wl' cn') 14 (rP A T n (caA T n).2.2))) none (oh E ah A (su (dk A S b kd' wn' nm' ls' wl' cn') 14 (rP A T n (caS T n)))) := by
        refine e9 ?_
        rw [eS, ← h1]
        simp (disch := first | assumption | omega | decide | (simp only [List.length_cons, List.length_nil, Nat.reduceAdd, Nat.reduceLT]; done) | fail) only [r9_0, r9_1, oGF_is, WPo_some, List.getElem?_cons_succ, List.getElem?_cons_zero, kil_n, kil_i, kil_a, kil_u, kil_l, Option.toList_some, Option.toList_none, List.cons_append, List.nil_append, List.set_cons_succ, List.set_cons_zero, addm1, Nat.reduceAdd, List.length_cons, List.length_nil, Nat.reduceLT]
        exact lk
      have ci := rP_ci (E := E) (S := dk A S b kd' wn' nm' ls' wl' cn') (T := T) (n := n) (s := (caA T n).2.2) hO
      have okS : okP n (caS T n) := by
        rw [eS]
        unfold ckS
        split
        · exact ⟨hS.1, by show 5 ≤ 5; decide, fun z => absurd (show 5 = 0 from z) (by decide)⟩
        · exact ok_gon hS.1
      have ok3 := okS.2.1
      by_cases w : (caS T n).2.1 = 0
      · simp (disch := first | assumption | omega | decide | (simp only [List.length_cons, List.length_nil, Nat.reduceAdd, Nat.reduceLT]; done) | fail) only [r1_74, r1_75, r1_78, r1_81, r1_82, r1_82n, r1_86, r1_87, r1_90, r1_93, r1_94, r1_97, r1_98 (x := 0) (Or.inl rfl), r1_98 (x := 1) (Or.inr rfl), r1_98 (b2i_or _), g0, q1_83 kk ci, eq_true y, eq_true w, oGF_is, WPo_some, List.getElem?_cons_succ, List.getElem?_cons_zero, kil_n, kil_i, kil_a, kil_u, kil_l, Option.toList_some, Option.toList_none, List.cons_append, List.nil_append, List.set_cons_succ, List.set_cons_zero, addm1, Nat.reduceAdd, List.length_cons, List.length_nil, Nat.reduceLT, nI_clamp, nI_toInt, nI_leL, nI_Lle, nI_ltL, nI_Llt, nI_eqL, nI_Leq, nI_leE, nI_ltE, nI_eqE, nI_eqM, nI_add, nI_addL, nI_Ladd, nI_mulL, nI_Lmul, pk_mul, pk_sub, nI_subL, nI_Lsub, i2l_nI, Int.toNat_natCast, Nat.not_lt_zero, Nat.zero_le, ifT, ifF, not_true_eq_false, not_false_eq_true, if_true, if_false, or_self, and_self, true_and, and_true, or_true, true_or, false_or, or_false, false_and, and_false]
        exact ⟨by unfold b2i; rw [if_pos w], _, _, _, _, _, _, rfl, okS, hc', fun _ => ⟨h1, h2⟩⟩
      · simp (disch := first | assumption | omega | decide | (simp only [List.length_cons, List.length_nil, Nat.reduceAdd, Nat.reduceLT]; done) | fail) only [r1_74, r1_75, r1_78, r1_81, r1_82, r1_82n, r1_86, r1_87, r1_90, r1_93, r1_94, r1_97, r1_98 (x := 0) (Or.inl rfl), r1_98 (x := 1) (Or.inr rfl), r1_98 (b2i_or _), g0, q1_83 kk ci, eq_true y, w, oGF_is, WPo_some, List.getElem?_cons_succ, List.getElem?_cons_zero, kil_n, kil_i, kil_a, kil_u, kil_l, Option.toList_some, Option.toList_none, List.cons_append, List.nil_append, List.set_cons_succ, List.set_cons_zero, addm1, Nat.reduceAdd, List.length_cons, List.length_nil, Nat.reduceLT, nI_clamp, nI_toInt, nI_leL, nI_Lle, nI_ltL, nI_Llt, nI_eqL, nI_Leq, nI_leE, nI_ltE, nI_eqE, nI_eqM, nI_add, nI_addL, nI_Ladd, nI_mulL, nI_Lmul, pk_mul, pk_sub, nI_subL, nI_Lsub, i2l_nI, Int.toNat_natCast, Nat.not_lt_zero, Nat.zero_le, ifT, ifF, not_true_eq_false, not_false_eq_true, if_true, if_false, or_self, and_self, true_and, and_true, or_true, true_or, false_or, or_false, false_and, and_false]
        exact ⟨by unfold b2i; rw [if_neg w], _, _, _, _, _, _, rfl, okS, hc', fun z => absurd z w⟩
    · have eS : caS T n = (caA T n).2.2 := if_neg y
      simp (disch := first | assumption | omega | decide | (simp only [List.length_cons, List.length_nil, Nat.reduceAdd, Nat.reduceLT]; done) | fail) only [r1_74, r1_75, r1_78, r1_81, r1_82, r1_82n, r1_86, r1_87, r1_90, r1_93, r1_94, r1_97, r1_98 (x := 0) (Or.inl rfl), r1_98 (x := 1) (Or.inr rfl), r1_98 (b2i_or _), g0, y, oGF_is, WPo_some, List.getElem?_cons_succ, List.getElem?_cons_zero, kil_n, kil_i, kil_a, kil_u, kil_l, Option.toList_some, Option.toList_none, List.cons_append, List.nil_append, List.set_cons_succ, List.set_cons_zero, addm1, Nat.reduceAdd, List.length_cons, List.length_nil, Nat.reduceLT, nI_clamp, nI_toInt, nI_leL, nI_Lle, nI_ltL, nI_Llt, nI_eqL, nI_Leq, nI_leE, nI_ltE, nI_eqE, nI_eqM, nI_add, nI_addL, nI_Ladd, nI_mulL, nI_Lmul, pk_mul, pk_sub, nI_subL, nI_Lsub, i2l_nI, Int.toNat_natCast, Nat.not_lt_zero, Nat.zero_le, ifT, ifF, not_true_eq_false, not_false_eq_true, if_true, if_false, or_self, and_self, true_and, and_true, or_true, true_or, false_or, or_false, false_and, and_false]
      refine ⟨by unfold b2i; rw [eS, if_neg y], _, _, _, _, _, _, by rw [eS], by rw [eS]; exact hS, hc', fun z => ?_⟩
      rw [eS] at z
      exact absurd z y)
  obtain ⟨r1, a1, ⟨f1, kd', wn', nm', ls', wl', cn', f2, f3, f4, f5⟩, w⟩ := WP.ex main
  subst f1 f2
  refine ⟨kd', wn', nm', ls', wl', cn', e1 ?_, f3, f4, f5⟩
  unfold rO at kn ci
  rw [show nI 0 = (0 : Int32) from rfl] at kn ci
  have s0 : ∀ X, hs E (oh E ah A (su (dk A S b kd wn nm ls wl cn) 14 X)) (A b) (.inr (1, [.ref (A (b + 1)), .ref (A (b + 2)), .ref (A (b + 3)), .ref (A (b + 4)), .ref (A (b + 5)), .int 0])) = oh E ah A (su (dk A S b kd wn nm ls wl 0) 14 X) := fun X => sz0 hO hb (cn' := 0)
  simp (disch := first | assumption | omega | decide | (simp only [List.length_cons, List.length_nil, Nat.reduceAdd, Nat.reduceLT]; done) | fail) only [r1_0, r1_1, r1_1n, r1_2, r1_5, r1_6, r1_7, r1_7n, r1_8, r1_12, r1_15, r1_16, r1_17, r1_20, r1_21, r1_22, r1_25, r1_26, r1_27, r1_30, r1_30n, r1_31, r1_32, r1_35, r1_39, r1_40, hx_14 hO, hx_13 hO, sx_14 hO, su_at, su_ne, su_su, hD, gN, hz0 hO hb, s0, pf_2, pf_10, pf_20, pf_60, pf_70, pf_1050, q1_9 c_min, em, q1_36 kn ci, oGF_is, WPo_some, List.getElem?_cons_succ, List.getElem?_cons_zero, kil_n, kil_i, kil_a, kil_u, kil_l, Option.toList_some, Option.toList_none, List.cons_append, List.nil_append, List.set_cons_succ, List.set_cons_zero, addm1, Nat.reduceAdd, List.length_cons, List.length_nil, Nat.reduceLT, nI_clamp, nI_toInt, nI_leL, nI_Lle, nI_ltL, nI_Llt, nI_eqL, nI_Leq, nI_leE, nI_ltE, nI_eqE, nI_eqM, nI_add, nI_addL, nI_Ladd, nI_mulL, nI_Lmul, pk_mul, pk_sub, nI_subL, nI_Lsub, i2l_nI, Int.toNat_natCast, Nat.not_lt_zero, Nat.zero_le, ifT, ifF, not_true_eq_false, not_false_eq_true, if_true, if_false, or_self, and_self, true_and, and_true, or_true, true_or, false_or, or_false, false_and, and_false]
  exact w
end RAX

/-! The cards: what a reading of them is -/
noncomputable def wS : Nat → List Nat
  | 100 => [105, 102]
  | 101 => [117, 112]
  | 102 => [100, 111, 119, 110]
  | 103 => [112, 117, 116]
  | 104 => [97, 100, 100]
  | 105 => [115, 117, 98]
  | 106 => [109, 117, 108]
  | 107 => [100, 105, 118]
  | 108 => [112, 114, 105, 110, 116]
  | 109 => [98, 97, 99, 107]
  | _ => [111, 110]
/-- the class' words lie among its constants -/
noncomputable def StE (E : aEnv) : Prop := ∀ k, 100 ≤ k → k ≤ 110 → ∃ a, E.2.2.1 k = some (.ref a) ∧ E.2.2.2 a = some ((wS k).map nI)
noncomputable def wq (T : Nat → Int32) : List Nat → Nat → Bool
  | [], _ => true
  | x :: w, s => decide (bt T s = x) && wq T w (s + 1)
noncomputable def wdB (T : Nat → Int32) (s e : Nat) (w : List Nat) : Bool := decide (e - s = w.length) && wq T w s
noncomputable def wdP (T : Nat → Int32) (n p k : Nat) : Bool := decide (nxT T n p = 1) && wdB T (nxS T n p) (nxE T n p) (wS k)
abbrev aPs : Type := Nat × Nat × Int32
noncomputable def rfK (T : Nat → Int32) (n p k : Nat) : Nat := if nxT T n p = 5 then 1 else k
noncomputable def flt (T : Nat → Int32) (n p k : Nat) : aPs := (p, rfK T n p k, nI (nxS T n p))
noncomputable def gon (p : Nat) : aPs := (p, 0, -1)
noncomputable def rdN (T : Nat → Int32) (n lo hi p : Nat) : Nat × aPs := if nxT T n p = 2 then (if lN lo ≤ nxV T n p ∧ nxV T n p ≤ lN hi then ((nxV T n p).toInt.toNat, gon (nxE T n p)) else (0, flt T n p 4)) else (0, flt T n p 2)
noncomputable def tkC (T : Nat → Int32) (n due : Nat) (s : aPs) : aPs := if s.2.1 = 0 then (if nxT T n s.1 = due then gon (nxE T n s.1) else flt T n s.1 2) else s
/-- whether a minus stands ahead -/
noncomputable def rdB (T : Nat → Int32) (n : Nat) (s : aPs) : Bool := decide (s.2.1 = 0) && decide (nxT T n s.1 = 4)
noncomputable def rdW (T : Nat → Int32) (n : Nat) (s : aPs) : Int64 × aPs := if rdB T n s = true then (- nxV T n (nxE T n s.1), tkC T n 2 (gon (nxE T n s.1))) else (nxV T n s.1, tkC T n 2 s)
noncomputable def rdI (T : Nat → Int32) (n p : Nat) : Nat × aPs := if wdP T n p 100 = true then (if wdP T n (nxE T n p) 101 = true then (1, gon (nxE T n (nxE T n p))) else if wdP T n (nxE T n p) 102 = true then (2, gon (nxE T n (nxE T n p))) else (0, flt T n (nxE T n p) 2)) else (0, flt T n p 2)
noncomputable def rdJ (T : Nat → Int32) (n : Nat) (s : aPs) : Nat × aPs := if s.2.1 = 0 ∧ nxT T n s.1 = 1 then rdI T n s.1 else (0, s)
noncomputable def kdN (T : Nat → Int32) (n p : Nat) : Nat := if wdP T n p 103 = true then 0 else if wdP T n p 104 = true then 1 else if wdP T n p 105 = true then 2 else if wdP T n p 106 = true then 3 else if wdP T n p 107 = true then 4 else if wdP T n p 108 = true then 5 else if wdP T n p 109 = true then 6 else if wdP T n p 110 = true then 7 else 8
noncomputable def plc (k : Nat) : Nat := if k = 0 ∨ k = 5 then 1 else if k = 1 ∨ k = 2 ∨ k = 3 then 3 else if k = 4 then 4 else 0
noncomputable def rdP (T : Nat → Int32) (n : Nat) : Nat → Nat → aPs → (Nat → Nat) → (Nat → Nat) × aPs
  | 0, _, s, f => (f, s)
  | z + 1, i, s, f => if s.2.1 = 0 then rdP T n z (i + 1) (rdN T n 0 19 s.1).2 (fnu f i (rdN T n 0 19 s.1).1) else (f, s)
/-- a card: its kind, when, its numbers, where its lead starts, its whole number -/
abbrev aCd : Type := Nat × Nat × (Nat → Nat) × Nat × Int64
noncomputable def rdC (T : Nat → Int32) (n p : Nat) : aPs × aCd :=
  if kdN T n p = 6 ∨ kdN T n p = 7 then (tkC T n 3 (rdJ T n (rdN T n 1 40 (nxE T n p)).2).2, (kdN T n p, (rdJ T n (rdN T n 1 40 (nxE T n p)).2).1, (fun _ => (rdN T n 1 40 (nxE T n p)).1), nxS T n (nxE T n p), 0))
  else if kdN T n p = 0 then (tkC T n 3 (rdW T n (rdP T n 1 0 (gon (nxE T n p)) (fun _ => 0)).2).2, (0, 0, (rdP T n 1 0 (gon (nxE T n p)) (fun _ => 0)).1, 0, (rdW T n (rdP T n 1 0 (gon (nxE T n p)) (fun _ => 0)).2).1))
  else (tkC T n 3 (rdP T n (plc (kdN T n p)) 0 (gon (nxE T n p)) (fun _ => 0)).2, (kdN T n p, 0, (rdP T n (plc (kdN T n p)) 0 (gon (nxE T n p)) (fun _ => 0)).1, 0, 0))
section PSB
variable {T : Nat → Int32} {n : Nat}
theorem kdN_le {p : Nat} : kdN T n p ≤ 8 := by
  unfold kdN
  repeat' split
  all_goals omega
/-- a reading that stands within the tape -/
noncomputable def okP (n : Nat) (s : aPs) : Prop := s.1 ≤ n ∧ s.2.1 ≤ 5 ∧ (s.2.1 = 0 → s.2.2 = -1)
theorem ok_gon {p : Nat} (h : p ≤ n) : okP n (gon p) := ⟨h, by show 0 ≤ 5; omega, fun _ => rfl⟩
theorem rfK_rg {p k : Nat} (hk : 1 ≤ k) (hk5 : k ≤ 5) : 1 ≤ rfK T n p k ∧ rfK T n p k ≤ 5 := by
  unfold rfK
  split <;> omega
theorem ok_flt {p k : Nat} (h : p ≤ n) (hk : 1 ≤ k) (hk5 : k ≤ 5) : okP n (flt T n p k) := by
  have := rfK_rg (T := T) (n := n) (p := p) hk hk5
  exact ⟨h, this.2, fun z => absurd (show rfK T n p k = 0 from z) (by omega)⟩
theorem flt_ne {p k : Nat} (hk : 1 ≤ k) (hk5 : k ≤ 5) : ¬ (flt T n p k).2.1 = 0 := by
  have := rfK_rg (T := T) (n := n) (p := p) hk hk5
  show ¬ rfK T n p k = 0
  omega
theorem ok_rdN {lo hi p : Nat} (h : p ≤ n) : okP n (rdN T n lo hi p).2 := by
  have := nxE_le (T := T) h
  unfold rdN
  split
  · split
    · exact ok_gon this.2
    · exact ok_flt h (by decide) (by decide)
  · exact ok_flt h (by decide) (by decide)
theorem ok_tkC {due : Nat} {s : aPs} (h : okP n s) : okP n (tkC T n due s) := by
  have := nxE_le (T := T) h.1
  unfold tkC
  split
  · split
    · exact ok_gon this.2
    · exact ok_flt h.1 (by decide) (by decide)
  · exact h
theorem ok_rdW {s : aPs} (h : okP n s) : okP n (rdW T n s).2 := by
  have := nxE_le (T := T) h.1
  unfold rdW
  split
  · exact ok_tkC (ok_gon this.2)
  · exact ok_tkC h
theorem ok_rdI {p : Nat} (h : p ≤ n) : okP n (rdI T n p).2 := by
  have h1 := nxE_le (T := T) h
  have h2 := nxE_le (T := T) h1.2
  unfold rdI
  split
  · split
    · exact ok_gon h2.2
    · split
      · exact ok_gon h2.2
      · exact ok_flt h1.2 (by decide) (by decide)
  · exact ok_flt h (by decide) (by decide)
theorem ok_rdJ {s : aPs} (h : okP n s) : okP n (rdJ T n s).2 := by
  unfold rdJ
  split
  · exact ok_rdI h.1
  · exact h
theorem ok_rdP : ∀ z i s f, okP n s → okP n (rdP T n z i s f).2
  | 0, _, _, _, h => h
  | z + 1, i, s, f, h => by
    unfold rdP
    split
    · exact ok_rdP z _ _ _ (ok_rdN h.1)
    · exact h
theorem ok_rdC {p : Nat} (h : p ≤ n) : okP n (rdC T n p).1 := by
  have h1 := nxE_le (T := T) h
  unfold rdC
  split
  · exact ok_tkC (ok_rdJ (ok_rdN h1.2))
  · split
    · exact ok_tkC (ok_rdW (ok_rdP _ _ _ _ (ok_gon h1.2)))
    · exact ok_tkC (ok_rdP _ _ _ _ (ok_gon h1.2))
end PSB
noncomputable def rP (A : Nat → Nat) (T : Nat → Int32) (n : Nat) (s : aPs) : aE := rT A T n s.1 s.2.1 s.2.2
section CRP
variable {E : aEnv} {c : Nat} {ah : aHp} {A : Nat → Nat} {S : Nat → aE} {T : Nat → Int32} {n : Nat}
theorem rP_ci (hO : XO E ah A) {s : aPs} : oCI (hg E (oh E ah A (su S 14 (rP A T n s))) (A 14)) = 0 := by rw [hx_14 hO, su_at]; rfl
theorem c_nextP (hO : XO E ah A) (h13 : S 13 = .inl (2, 500, .inl T)) (hn : n ≤ 500) {p fa : Nat} {fp : Int32} (hp : p ≤ n) : EV E (c + 2) 12 [.ref (A 14)] (oh E ah A (su S 14 (rP A T n (p, fa, fp)))) none (oh E ah A (su S 14 (rP A T n (nxE T n p, fa, fp)))) := by
  have h2 := nxE_le (T := T) hp
  exact c_next hO h13 hn h2.2
theorem c_refuse (hO : XO E ah A) {p k : Nat} : EV E c 8 [.ref (A 14), .int (nI k)] (oh E ah A (su S 14 (rP A T n (gon p)))) none (oh E ah A (su S 14 (rP A T n (flt T n p k)))) := by
  refine e8 ?_
  have h1 := nxT_le (T := T) (n := n) (p := p)
  unfold rP gon flt rT rO rfK
  dsimp only
  by_cases h : nxT T n p = 5
  · simp (disch := first | assumption | omega | decide | (simp only [List.length_cons, List.length_nil, Nat.reduceAdd, Nat.reduceLT]; done) | fail) only [r8_0, r8_1, r8_4, r8_7, r8_8, r8_9, r8_12, r8_13, r8_16, r8_17, r8_20, r8_21, r8_24, r8_25, r8_26, r8_29, r8_32, hx_14 hO, sx_14 hO, su_at, su_su, pf_60, pf_70, h, oGF_is, WPo_some, List.getElem?_cons_succ, List.getElem?_cons_zero, kil_n, kil_i, kil_a, kil_u, kil_l, Option.toList_some, Option.toList_none, List.cons_append, List.nil_append, List.set_cons_succ, List.set_cons_zero, addm1, Nat.reduceAdd, List.length_cons, List.length_nil, Nat.reduceLT, nI_clamp, nI_toInt, nI_leL, nI_Lle, nI_ltL, nI_Llt, nI_eqL, nI_Leq, nI_leE, nI_ltE, nI_eqE, nI_eqM, nI_add, nI_addL, nI_Ladd, nI_mulL, nI_Lmul, pk_mul, pk_sub, nI_subL, nI_Lsub, i2l_nI, Int.toNat_natCast, Nat.not_lt_zero, Nat.zero_le, ifT, ifF, not_true_eq_false, not_false_eq_true, if_true, if_false, or_self, and_self, true_and, and_true, or_true, true_or, false_or, or_false, false_and, and_false]
    exact rfl
  · simp (disch := first | assumption | omega | decide | (simp only [List.length_cons, List.length_nil, Nat.reduceAdd, Nat.reduceLT]; done) | fail) only [r8_0, r8_1, r8_4, r8_7, r8_8, r8_9, r8_12, r8_13, r8_16, r8_17, r8_20, r8_21, r8_24, r8_25, r8_26, r8_29, r8_32, hx_14 hO, sx_14 hO, su_at, su_su, pf_60, pf_70, h, oGF_is, WPo_some, List.getElem?_cons_succ, List.getElem?_cons_zero, kil_n, kil_i, kil_a, kil_u, kil_l, Option.toList_some, Option.toList_none, List.cons_append, List.nil_append, List.set_cons_succ, List.set_cons_zero, addm1, Nat.reduceAdd, List.length_cons, List.length_nil, Nat.reduceLT, nI_clamp, nI_toInt, nI_leL, nI_Lle, nI_ltL, nI_Llt, nI_eqL, nI_Leq, nI_leE, nI_ltE, nI_eqE, nI_eqM, nI_add, nI_addL, nI_Ladd, nI_mulL, nI_Lmul, pk_mul, pk_sub, nI_subL, nI_Lsub, i2l_nI, Int.toNat_natCast, Nat.not_lt_zero, Nat.zero_le, ifT, ifF, not_true_eq_false, not_false_eq_true, if_true, if_false, or_self, and_self, true_and, and_true, or_true, true_or, false_or, or_false, false_and, and_false]
theorem c_take (hO : XO E ah A) (h13 : S 13 = .inl (2, 500, .inl T)) (hn : n ≤ 500) {s : aPs} (hs : okP n s) {due : Nat} (hd : due ≤ 5) : EV E (c + 3) 7 [.ref (A 14), .int (nI due)] (oh E ah A (su S 14 (rP A T n s))) none (oh E ah A (su S 14 (rP A T n (tkC T n due s)))) := by
  refine e7 ?_
  obtain ⟨p, fa, fp⟩ := s
  obtain ⟨o1, o2, o3⟩ := hs
  dsimp only at o1 o2 o3
  have h1 := nxT_le (T := T) (n := n) (p := p)
  unfold tkC
  dsimp only
  have ci := rP_ci (E := E) (S := S) (T := T) (n := n) (s := (p, fa, fp)) hO
  have g0 : hg E (oh E ah A (su S 14 (rP A T n (p, fa, fp)))) (A 14) = some (.inr (0, [.ref (A 13), .int (nI n), .int (nI (nxE T n p)), .int (nI (nxT T n p)), .int (nI (nxS T n p)), .long (nxV T n p), .int (nI fa), .int fp])) := by rw [hx_14 hO, su_at]; rfl
  have k1 := c_nextP (E := E) (c := c) hO h13 hn (fa := fa) (fp := fp) o1
  have k2 := c_refuse (E := E) (c := c + 2) (S := S) (T := T) (n := n) hO (p := p) (k := 2)
  have e2 : nI 2 = (2 : Int32) := rfl
  rw [e2] at k2
  by_cases z : fa = 0
  · have o4 : fp = -1 := o3 z
    have e3 : gon p = (p, fa, fp) := by rw [z, o4]; rfl
    have e4 : gon (nxE T n p) = (nxE T n p, fa, fp) := by rw [z, o4]; rfl
    rw [e3] at k2
    rw [if_pos z]
    by_cases y : nxT T n p = due
    · rw [if_pos y, e4]
      simp (disch := first | assumption | omega | decide | (simp only [List.length_cons, List.length_nil, Nat.reduceAdd, Nat.reduceLT]; done) | fail) only [r7_0, r7_1, r7_4, r7_7, r7_8, r7_9, r7_12, r7_13, r7_16, r7_20, r7_23, r7_24, r7_28, g0, q7_17 k1 ci, y, eq_true z, oGF_is, WPo_some, List.getElem?_cons_succ, List.getElem?_cons_zero, kil_n, kil_i, kil_a, kil_u, kil_l, Option.toList_some, Option.toList_none, List.cons_append, List.nil_append, List.set_cons_succ, List.set_cons_zero, addm1, Nat.reduceAdd, List.length_cons, List.length_nil, Nat.reduceLT, nI_clamp, nI_toInt, nI_leL, nI_Lle, nI_ltL, nI_Llt, nI_eqL, nI_Leq, nI_leE, nI_ltE, nI_eqE, nI_eqM, nI_add, nI_addL, nI_Ladd, nI_mulL, nI_Lmul, pk_mul, pk_sub, nI_subL, nI_Lsub, i2l_nI, Int.toNat_natCast, Nat.not_lt_zero, Nat.zero_le, ifT, ifF, not_true_eq_false, not_false_eq_true, if_true, if_false, or_self, and_self, true_and, and_true, or_true, true_or, false_or, or_false, false_and, and_false]
    · rw [if_neg y]
      simp (disch := first | assumption | omega | decide | (simp only [List.length_cons, List.length_nil, Nat.reduceAdd, Nat.reduceLT]; done) | fail) only [r7_0, r7_1, r7_4, r7_7, r7_8, r7_9, r7_12, r7_13, r7_16, r7_20, r7_23, r7_24, r7_28, g0, q7_25 k2 ci, y, eq_true z, oGF_is, WPo_some, List.getElem?_cons_succ, List.getElem?_cons_zero, kil_n, kil_i, kil_a, kil_u, kil_l, Option.toList_some, Option.toList_none, List.cons_append, List.nil_append, List.set_cons_succ, List.set_cons_zero, addm1, Nat.reduceAdd, List.length_cons, List.length_nil, Nat.reduceLT, nI_clamp, nI_toInt, nI_leL, nI_Lle, nI_ltL, nI_Llt, nI_eqL, nI_Leq, nI_leE, nI_ltE, nI_eqE, nI_eqM, nI_add, nI_addL, nI_Ladd, nI_mulL, nI_Lmul, pk_mul, pk_sub, nI_subL, nI_Lsub, i2l_nI, Int.toNat_natCast, Nat.not_lt_zero, Nat.zero_le, ifT, ifF, not_true_eq_false, not_false_eq_true, if_true, if_false, or_self, and_self, true_and, and_true, or_true, true_or, false_or, or_false, false_and, and_false]
  · rw [if_neg z]
    simp (disch := first | assumption | omega | decide | (simp only [List.length_cons, List.length_nil, Nat.reduceAdd, Nat.reduceLT]; done) | fail) only [r7_0, r7_1, r7_4, r7_7, r7_8, r7_9, r7_12, r7_13, r7_16, r7_20, r7_23, r7_24, r7_28, g0, z, oGF_is, WPo_some, List.getElem?_cons_succ, List.getElem?_cons_zero, kil_n, kil_i, kil_a, kil_u, kil_l, Option.toList_some, Option.toList_none, List.cons_append, List.nil_append, List.set_cons_succ, List.set_cons_zero, addm1, Nat.reduceAdd, List.length_cons, List.length_nil, Nat.reduceLT, nI_clamp, nI_toInt, nI_leL, nI_Lle, nI_ltL, nI_Llt, nI_eqL, nI_Leq, nI_leE, nI_ltE, nI_eqE, nI_eqM, nI_add, nI_addL, nI_Ladd, nI_mulL, nI_Lmul, pk_mul, pk_sub, nI_subL, nI_Lsub, i2l_nI, Int.toNat_natCast, Nat.not_lt_zero, Nat.zero_le, ifT, ifF, not_true_eq_false, not_false_eq_true, if_true, if_false, or_self, and_self, true_and, and_true, or_true, true_or, false_or, or_false, false_and, and_false]
end CRP

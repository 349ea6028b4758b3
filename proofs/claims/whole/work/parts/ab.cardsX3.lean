/-! The class' reader: a whole card -/
noncomputable def dkI (kd wn nm ls : Nat → Int32) (wl : Nat → Int64) (i : Nat) (C : aCd) : Prop := kd i = nI C.1 ∧ wn i = nI C.2.1 ∧ (∀ j, j < plc C.1 → nm (4 * i + j) = nI (C.2.2.1 j)) ∧ (C.1 = 6 ∨ C.1 = 7 → nm (4 * i) = nI (C.2.2.1 0) ∧ ls i = nI C.2.2.2.1) ∧ (C.1 = 0 → wl i = C.2.2.2.2)
noncomputable def dkA (kd wn nm ls : Nat → Int32) (wl : Nat → Int64) (kd' wn' nm' ls' : Nat → Int32) (wl' : Nat → Int64) (cn : Nat) : Prop := ∀ i, i < cn → kd' i = kd i ∧ wn' i = wn i ∧ ls' i = ls i ∧ wl' i = wl i ∧ ∀ j, j < 4 → nm' (4 * i + j) = nm (4 * i + j)
theorem plc_le {k : Nat} : plc k ≤ 4 := by
  unfold plc
  repeat' split
  all_goals omega
section RCX
variable {E : aEnv} {c : Nat} {ah : aHp} {A : Nat → Nat} {S : Nat → aE} {T : Nat → Int32} {n b cn : Nat} {kd wn nm ls : Nat → Int32} {wl : Nat → Int64}
theorem rdN_19 {p lo hi : Nat} : (rdN T n lo hi p).1 ≤ hi := by
  unfold rdN
  split
  · split
    · next h =>
      have h2 := h.2
      rw [i64_le] at h2
      show (nxV T n p).toInt.toNat ≤ hi
      have := i64_rg (lN hi)
      by_cases z : hi < 2 ^ 63
      · rw [lN_toInt63 z] at h2
        omega
      · have := i64_rg (nxV T n p)
        omega
    · exact Nat.zero_le _
  · exact Nat.zero_le _
theorem l_rc (hO : XO E ah A) (h13 : S 13 = .inl (2, 500, .inl T)) (hn : n ≤ 500) (hb : 61 ≤ b ∧ b ≤ 67) (hc : cn < 40) {k pl : Nat} (hpl : pl ≤ 4) {Q : Option Value → aHp → Prop} : ∀ z i s f nm, i + z = pl → okP n s → (s.2.1 = 0 → ∀ j, j < i → nm (4 * cn + j) = nI (f j)) → (∀ nm' l4, (∀ q, ¬ (4 * cn ≤ q ∧ q < 4 * cn + 4) → nm' q = nm q) → ((rdP T n z i s f).2.2.1 = 0 → ∀ j, j < pl → nm' (4 * cn + j) = nI ((rdP T n z i s f).1 j)) → WP E (c + 4) 2 93 [some (.ref (A 14)), some (.ref (A b)), some (.int (nI k)), some (.int (nI pl)), l4] [] (oh E ah A (su (dk A S b kd wn nm' ls wl cn) 14 (rP A T n (rdP T n z i s f).2))) Q) → WP E (c + 4) 2 61 [some (.ref (A 14)), some (.ref (A b)), some (.int (nI k)), some (.int (nI pl)), some (.int (nI i))] [] (oh E ah A (su (dk A S b kd wn nm ls wl cn) 14 (rP A T n s))) Q
  | 0, i, s, f, nm, hz, hs, hf, K => by
    have K := K nm (some (.int (nI i))) (fun q hq => rfl) (fun h j hj => hf h j (by omega))
    rw [show i = pl by omega] at K ⊢
    rw [r2_61]
    simp (disch := first | assumption | omega | decide | (simp only [List.length_cons, List.length_nil, Nat.reduceAdd, Nat.reduceLT]; done) | fail) only [r2_63, r2_64, oGF_is, WPo_some, List.getElem?_cons_succ, List.getElem?_cons_zero, kil_n, kil_i, kil_a, kil_u, kil_l, Option.toList_some, Option.toList_none, List.cons_append, List.nil_append, List.set_cons_succ, List.set_cons_zero, addm1, Nat.reduceAdd, List.length_cons, List.length_nil, Nat.reduceLT, nI_clamp, nI_toInt, nI_leL, nI_Lle, nI_ltL, nI_Llt, nI_eqL, nI_Leq, nI_leE, nI_ltE, nI_eqE, nI_eqM, nI_add, nI_addL, nI_Ladd, nI_mulL, nI_Lmul, pk_mul, pk_sub, nI_subL, nI_Lsub, i2l_nI, Int.toNat_natCast, Nat.not_lt_zero, Nat.zero_le, ifT, ifF, not_true_eq_false, not_false_eq_true, if_true, if_false, or_self, and_self, true_and, and_true, or_true, true_or, false_or, or_false, false_and, and_false]
    exact K
  | z + 1, i, s, f, nm, hz, hs, hf, K => by
    have g0 : hg E (oh E ah A (su (dk A S b kd wn nm ls wl cn) 14 (rP A T n s))) (A 14) = some (.inr (0, [.ref (A 13), .int (nI n), .int (nI (nxE T n s.1)), .int (nI (nxT T n s.1)), .int (nI (nxS T n s.1)), .long (nxV T n s.1), .int (nI s.2.1), .int s.2.2])) := by rw [hx_14 hO, su_at]; rfl
    have ok2 := hs.2.1
    rw [r2_61]
    unfold rdP at K
    by_cases y : s.2.1 = 0
    · rw [if_pos y] at K
      have eg : gon s.1 = s := by
        have := hs.2.2 y
        obtain ⟨p', fa, fp⟩ := s
        dsimp only at y this
        rw [y, this]
        rfl
      have hD : dk A S b kd wn nm ls wl cn 13 = .inl (2, 500, .inl T) := by rw [dk_ne (by omega), h13]
      have k1 := c_readNumber (E := E) (c := c) (S := dk A S b kd wn nm ls wl cn) hO hD hn hs.1 (lo := 0) (hi := 19) (by decide) (by decide)
      have e0 : nI 0 = (0 : Int32) := rfl
      have e19 : nI 19 = (19 : Int32) := rfl
      rw [e0, e19, eg] at k1
      have ci := rP_ci (E := E) (S := dk A S b kd wn nm ls wl cn) (T := T) (n := n) (s := s) hO
      have ok := ok_rdN (T := T) (n := n) (lo := 0) (hi := 19) hs.1
      have ih := l_rc hO h13 hn hb hc (k := k) hpl (Q := Q) z (i + 1) (rdN T n 0 19 s.1).2 (fnu f i (rdN T n 0 19 s.1).1) (upd nm (4 * cn + i) (nI (rdN T n 0 19 s.1).1)) (by omega) ok (fun _ j hj => by
        by_cases w : j = i
        · rw [w, upd_at]; exact congrArg nI (if_pos rfl).symm
        · rw [upd_ne (by omega), hf y j (by omega)]; exact congrArg nI (if_neg w).symm) (fun nm' l4 h1 h2 => K nm' l4 (fun q hq => by rw [h1 q hq, upd_ne (by omega)]) h2)
      have k2 := c_noteN (E := E) (c := c + 2) (S := S) (kd := kd) (wn := wn) (nm := nm) (ls := ls) (wl := wl) (X := rP A T n (rdN T n 0 19 s.1).2) hO hb hc (w := i) (by omega) (x := nI (rdN T n 0 19 s.1).1)
      simp (disch := first | assumption | omega | decide | (simp only [List.length_cons, List.length_nil, Nat.reduceAdd, Nat.reduceLT]; done) | fail) only [r2_63, r2_64, r2_67, r2_68, r2_71, r2_74, r2_74n, r2_75, r2_77, r2_78, r2_79, r2_87, r2_90, g0, q2_81 k1 ci, q2_84 k2 (dk_ci hO hb), eq_true y, oGF_is, WPo_some, List.getElem?_cons_succ, List.getElem?_cons_zero, kil_n, kil_i, kil_a, kil_u, kil_l, Option.toList_some, Option.toList_none, List.cons_append, List.nil_append, List.set_cons_succ, List.set_cons_zero, addm1, Nat.reduceAdd, List.length_cons, List.length_nil, Nat.reduceLT, nI_clamp, nI_toInt, nI_leL, nI_Lle, nI_ltL, nI_Llt, nI_eqL, nI_Leq, nI_leE, nI_ltE, nI_eqE, nI_eqM, nI_add, nI_addL, nI_Ladd, nI_mulL, nI_Lmul, pk_mul, pk_sub, nI_subL, nI_Lsub, i2l_nI, Int.toNat_natCast, Nat.not_lt_zero, Nat.zero_le, ifT, ifF, not_true_eq_false, not_false_eq_true, if_true, if_false, or_self, and_self, true_and, and_true, or_true, true_or, false_or, or_false, false_and, and_false]
      exact ih
    · rw [if_neg y] at K
      have K := K nm (some (.int (nI i))) (fun q hq => rfl) (fun h => absurd h y)
      simp (disch := first | assumption | omega | decide | (simp only [List.length_cons, List.length_nil, Nat.reduceAdd, Nat.reduceLT]; done) | fail) only [r2_63, r2_64, r2_67, r2_68, r2_71, g0, y, oGF_is, WPo_some, List.getElem?_cons_succ, List.getElem?_cons_zero, kil_n, kil_i, kil_a, kil_u, kil_l, Option.toList_some, Option.toList_none, List.cons_append, List.nil_append, List.set_cons_succ, List.set_cons_zero, addm1, Nat.reduceAdd, List.length_cons, List.length_nil, Nat.reduceLT, nI_clamp, nI_toInt, nI_leL, nI_Lle, nI_ltL, nI_Llt, nI_eqL, nI_Leq, nI_leE, nI_ltE, nI_eqE, nI_eqM, nI_add, nI_addL, nI_Ladd, nI_mulL, nI_Lmul, pk_mul, pk_sub, nI_subL, nI_Lsub, i2l_nI, Int.toNat_natCast, Nat.not_lt_zero, Nat.zero_le, ifT, ifF, not_true_eq_false, not_false_eq_true, if_true, if_false, or_self, and_self, true_and, and_true, or_true, true_or, false_or, or_false, false_and, and_false]
      exact K
/-- the end of a card: its semicolon -/
theorem l_re (hO : XO E ah A) (h13 : S 13 = .inl (2, 500, .inl T)) (hn : n ≤ 500) (hb : 61 ≤ b ∧ b ≤ 67) (hc : cn < 40) {s : aPs} (hs : okP n s) {l2 l3 l4 : Option Value} {Q : Option Value → aHp → Prop} (K : Q none (oh E ah A (su (dk A S b kd wn nm ls wl (cn + 1)) 14 (rP A T n (tkC T n 3 s))))) : WP E (c + 4) 2 127 [some (.ref (A 14)), some (.ref (A b)), l2, l3, l4] [] (oh E ah A (su (dk A S b kd wn nm ls wl cn) 14 (rP A T n s))) Q := by
  have hD : dk A S b kd wn nm ls wl cn 13 = .inl (2, 500, .inl T) := by rw [dk_ne (by omega), h13]
  have k := c_take (E := E) (c := c) (S := dk A S b kd wn nm ls wl cn) hO hD hn hs (due := 3) (by decide)
  rw [show nI 3 = (3 : Int32) from rfl] at k
  have ci := rP_ci (E := E) (S := dk A S b kd wn nm ls wl cn) (T := T) (n := n) (s := s) hO
  simp (disch := first | assumption | omega | decide | (simp only [List.length_cons, List.length_nil, Nat.reduceAdd, Nat.reduceLT]; done) | fail) only [r2_127, r2_128, r2_132, r2_132n, r2_133, r2_133i, r2_134, r2_137, r2_138, r2_139, r2_142, q2_129 k ci, hz0 hO hb, sz0 hO hb, pf_1050, oGF_is, WPo_some, List.getElem?_cons_succ, List.getElem?_cons_zero, kil_n, kil_i, kil_a, kil_u, kil_l, Option.toList_some, Option.toList_none, List.cons_append, List.nil_append, List.set_cons_succ, List.set_cons_zero, addm1, Nat.reduceAdd, List.length_cons, List.length_nil, Nat.reduceLT, nI_clamp, nI_toInt, nI_leL, nI_Lle, nI_ltL, nI_Llt, nI_eqL, nI_Leq, nI_leE, nI_ltE, nI_eqE, nI_eqM, nI_add, nI_addL, nI_Ladd, nI_mulL, nI_Lmul, pk_mul, pk_sub, nI_subL, nI_Lsub, i2l_nI, Int.toNat_natCast, Nat.not_lt_zero, Nat.zero_le, ifT, ifF, not_true_eq_false, not_false_eq_true, if_true, if_false, or_self, and_self, true_and, and_true, or_true, true_or, false_or, or_false, false_and, and_false]
  exact K
theorem c_readCard (hO : XO E ah A) (hE : StE E) (h13 : S 13 = .inl (2, 500, .inl T)) (hn : n ≤ 500) (hb : 61 ≤ b ∧ b ≤ 67) (hc : cn < 40) {p : Nat} (hp : p ≤ n) (hk : ¬ kdN T n p = 8) : ∃ kd' wn' nm' ls' wl', EV E (c + 9) 2 [.ref (A 14), .ref (A b)] (oh E ah A (su (dk A S b kd wn nm ls wl cn) 14 (rP A T n (gon p)))) none (oh E ah A (su (dk A S b kd' wn' nm' ls' wl' (cn + 1)) 14 (rP A T n (rdC T n p).1))) ∧ dkA kd wn nm ls wl kd' wn' nm' ls' wl' cn ∧ ((rdC T n p).1.2.1 = 0 → dkI kd' wn' nm' ls' wl' cn (rdC T n p).2) := by
  have h8 := kdN_le (T := T) (n := n) (p := p)
  have hE1 := nxE_le (T := T) hp
  have hD : ∀ kd wn nm ls wl cn, dk A S b kd wn nm ls wl cn 13 = .inl (2, 500, .inl T) := fun kd wn nm ls wl cn => by rw [dk_ne (by omega), h13]
  have k0 := c_cardKind (E := E) (c := c + 1) (S := dk A S b kd wn nm ls wl cn) hO hE (hD _ _ _ _ _ _) hn (s := gon p) hp
  rw [show (gon p).1 = p from rfl, if_neg hk] at k0
  have ci := rP_ci (E := E) (S := dk A S b kd wn nm ls wl cn) (T := T) (n := n) (s := gon p) hO
  have kF := c_isFull (E := E) (c := c + 8) (S := S) (kd := kd) (wn := wn) (nm := nm) (ls := ls) (wl := wl) (X := rP A T n (gon p)) hO hb (show cn ≤ 40 by omega)
  have kn := c_nextP (E := E) (c := c + 6) (S := dk A S b kd wn nm ls wl cn) hO (hD _ _ _ _ _ _) hn (fa := 0) (fp := -1) hp
  have g3 : ((nxE T n p, 0, -1) : aPs) = gon (nxE T n p) := rfl
  have g4 : ((p, 0, -1) : aPs) = gon p := rfl
  rw [g4, g3] at kn
  have kp := c_places (E := E) (c := c + 8) (ah := oh E ah A (su (dk A S b (upd kd cn (nI (kdN T n p))) (upd wn cn 0) nm ls wl cn) 14 (rP A T n (gon (nxE T n p))))) (k := kdN T n p) (by omega)
  have hc40 : ¬ cn = 40 := by omega
  let Q : Option Value → aHp → Prop := fun r x => r = none ∧ ∃ kd' wn' nm' ls' wl', x = oh E ah A (su (dk A S b kd' wn' nm' ls' wl' (cn + 1)) 14 (rP A T n (rdC T n p).1)) ∧ dkA kd wn nm ls wl kd' wn' nm' ls' wl' cn ∧ ((rdC T n p).1.2.1 = 0 → dkI kd' wn' nm' ls' wl' cn (rdC T n p).2)
  have hp4 := plc_le (k := kdN T n p)
  have main : WP E (c + 9) 2 61 [some (.ref (A 14)), some (.ref (A b)), some (.int (nI (kdN T n p))), some (.int (nI (plc (kdN T n p)))), some (.int (nI 0))] [] (oh E ah A (su (dk A S b (upd kd cn (nI (kdN T n p))) (upd wn cn 0) nm ls wl cn) 14 (rP A T n (gon (nxE T n p))))) Q := by
    refine l_rc (c := c + 5) hO h13 hn hb hc hp4 (plc (kdN T n p)) 0 (gon (nxE T n p)) (fun _ => 0) nm (by omega) (ok_gon hE1.2) (fun _ j hj => absurd hj (by omega)) (fun nm' l4 hq hj => ?_)
    have ok := ok_rdP (T := T) (n := n) (plc (kdN T n p)) 0 (gon (nxE T n p)) (fun _ => 0) (ok_gon hE1.2)
    by_cases y : kdN T n p = 6 ∨ kdN T n p = 7
    · have pl0 : plc (kdN T n p) = 0 := by
        rcases y with y | y <;> rw [y] <;> rfl
      have eC : rdC T n p = (tkC T n 3 (rdJ T n (rdN T n 1 40 (nxE T n p)).2).2, (kdN T n p, (rdJ T n (rdN T n 1 40 (nxE T n p)).2).1, (fun _ => (rdN T n 1 40 (nxE T n p)).1), nxS T n (nxE T n p), 0)) := if_pos y
      have eP : (rdP T n (plc (kdN T n p)) 0 (gon (nxE T n p)) (fun _ => 0)).2 = gon (nxE T n p) := by rw [pl0]; rfl
      rw [eP]
      have kl := c_readLead (E := E) (c := c) (kd := upd kd cn (nI (kdN T n p))) (wn := upd wn cn 0) (nm := nm') (ls := ls) (wl := wl) hO hE h13 hn hb hc hE1.2 upd_at
      have ci2 := rP_ci (E := E) (S := dk A S b (upd kd cn (nI (kdN T n p))) (upd wn cn 0) nm' ls wl cn) (T := T) (n := n) (s := gon (nxE T n p)) hO
      rw [upd_upd] at kl
      have e := l_re (c := c + 5) (kd := upd kd cn (nI (kdN T n p))) (wn := upd wn cn (nI (rdJ T n (rdN T n 1 40 (nxE T n p)).2).1)) (nm := upd nm' (4 * cn) (nI (rdN T n 1 40 (nxE T n p)).1)) (ls := upd ls cn (nI (nxS T n (nxE T n p)))) (wl := wl) hO h13 hn hb hc (s := (rdJ T n (rdN T n 1 40 (nxE T n p)).2).2) (ok_rdJ (ok_rdN hE1.2)) (l2 := some (.int (nI (kdN T n p)))) (l3 := some (.int (nI (plc (kdN T n p))))) (l4 := l4) (Q := Q) ⟨rfl, _, _, _, _, _, by rw [eC], fun i hi => ⟨upd_ne (by omega), upd_ne (by omega), upd_ne (by omega), rfl, fun j hj' => by rw [upd_ne (by omega), hq _ (by omega)]⟩, fun _ => by
          rw [eC]
          refine ⟨upd_at, upd_at, fun j hj' => ?_, fun _ => ⟨upd_at, upd_at⟩, fun z => ?_⟩
          · exact absurd (show j < plc (kdN T n p) from hj') (by omega)
          · exact absurd (show kdN T n p = 0 from z) (by omega)⟩
      have n0 : ¬ kdN T n p = 0 := by omega
      by_cases y6 : kdN T n p = 6
      · simp (disch := first | assumption | omega | decide | (simp only [List.length_cons, List.length_nil, Nat.reduceAdd, Nat.reduceLT]; done) | fail) only [r2_93, r2_94, r2_97, r2_97n, r2_98, r2_101, r2_101n, r2_102, r2_105, r2_109, r2_110, r2_111, r2_113, r2_116, r2_117, r2_119, r2_122, eq_true y6, n0, q2_124 kl ci2, r2_123, r2_123n, oGF_is, WPo_some, List.getElem?_cons_succ, List.getElem?_cons_zero, kil_n, kil_i, kil_a, kil_u, kil_l, Option.toList_some, Option.toList_none, List.cons_append, List.nil_append, List.set_cons_succ, List.set_cons_zero, addm1, Nat.reduceAdd, List.length_cons, List.length_nil, Nat.reduceLT, nI_clamp, nI_toInt, nI_leL, nI_Lle, nI_ltL, nI_Llt, nI_eqL, nI_Leq, nI_leE, nI_ltE, nI_eqE, nI_eqM, nI_add, nI_addL, nI_Ladd, nI_mulL, nI_Lmul, pk_mul, pk_sub, nI_subL, nI_Lsub, i2l_nI, Int.toNat_natCast, Nat.not_lt_zero, Nat.zero_le, ifT, ifF, not_true_eq_false, not_false_eq_true, if_true, if_false, or_self, and_self, true_and, and_true, or_true, true_or, false_or, or_false, false_and, and_false]
        exact e
      · have y7 : kdN T n p = 7 := by omega
        simp (disch := first | assumption | omega | decide | (simp only [List.length_cons, List.length_nil, Nat.reduceAdd, Nat.reduceLT]; done) | fail) only [r2_93, r2_94, r2_97, r2_97n, r2_98, r2_101, r2_101n, r2_102, r2_105, r2_109, r2_110, r2_111, r2_113, r2_116, r2_117, r2_119, r2_122, eq_true y7, y6, n0, q2_124 kl ci2, r2_123, r2_123n, oGF_is, WPo_some, List.getElem?_cons_succ, List.getElem?_cons_zero, kil_n, kil_i, kil_a, kil_u, kil_l, Option.toList_some, Option.toList_none, List.cons_append, List.nil_append, List.set_cons_succ, List.set_cons_zero, addm1, Nat.reduceAdd, List.length_cons, List.length_nil, Nat.reduceLT, nI_clamp, nI_toInt, nI_leL, nI_Lle, nI_ltL, nI_Llt, nI_eqL, nI_Leq, nI_leE, nI_ltE, nI_eqE, nI_eqM, nI_add, nI_addL, nI_Ladd, nI_mulL, nI_Lmul, pk_mul, pk_sub, nI_subL, nI_Lsub, i2l_nI, Int.toNat_natCast, Nat.not_lt_zero, Nat.zero_le, ifT, ifF, not_true_eq_false, not_false_eq_true, if_true, if_false, or_self, and_self, true_and, and_true, or_true, true_or, false_or, or_false, false_and, and_false]
        exact e
    · have y6 : ¬ kdN T n p = 6 := fun z => y (Or.inl z)
      have y7 : ¬ kdN T n p = 7 := fun z => y (Or.inr z)
      by_cases y0 : kdN T n p = 0
      · have pl1 : plc (kdN T n p) = 1 := by rw [y0]; rfl
        rw [pl1] at hj ok ⊢
        have eC : rdC T n p = (tkC T n 3 (rdW T n (rdP T n 1 0 (gon (nxE T n p)) (fun _ => 0)).2).2, (0, 0, (rdP T n 1 0 (gon (nxE T n p)) (fun _ => 0)).1, 0, (rdW T n (rdP T n 1 0 (gon (nxE T n p)) (fun _ => 0)).2).1)) := by
          unfold rdC
          rw [if_neg y, if_pos y0]
        generalize hR : rdP T n 1 0 (gon (nxE T n p)) (fun _ => 0) = R at *
        have kw := c_readWhole (E := E) (c := c + 4) (S := dk A S b (upd kd cn (nI (kdN T n p))) (upd wn cn 0) nm' ls wl cn) hO (hD _ _ _ _ _ _) hn ok
        have ci2 := rP_ci (E := E) (S := dk A S b (upd kd cn (nI (kdN T n p))) (upd wn cn 0) nm' ls wl cn) (T := T) (n := n) (s := R.2) hO
        have e := l_re (c := c + 5) (kd := upd kd cn (nI (kdN T n p))) (wn := upd wn cn 0) (nm := nm') (ls := ls) (wl := vp_updL wl cn (rdW T n R.2).1) hO h13 hn hb hc (s := (rdW T n R.2).2) (ok_rdW ok) (l2 := some (.int (nI (kdN T n p)))) (l3 := some (.int (nI 1))) (l4 := l4) (Q := Q) ⟨rfl, _, _, _, _, _, by rw [eC], fun i hi => ⟨upd_ne (by omega), upd_ne (by omega), rfl, vup_ne (by omega), fun j hj' => hq _ (by omega)⟩, fun hf => by
            rw [eC] at hf ⊢
            refine ⟨by rw [y0]; exact upd_at, upd_at, fun j hj' => ?_, fun z => ?_, fun _ => vup_at⟩
            · have hR0 : R.2.2.1 = 0 := by
                by_cases w : R.2.2.1 = 0
                · exact w
                · exfalso
                  have e1 : (rdW T n R.2).2 = R.2 := by
                    unfold rdW rdB tkC
                    simp only [w, decide_false, Bool.false_and, Bool.false_eq_true, if_false]
                  have e2 : tkC T n 3 R.2 = R.2 := by unfold tkC; rw [if_neg w]
                  dsimp only at hf
                  rw [e1, e2] at hf
                  exact w hf
              exact hj hR0 j hj'
            · exact absurd (show 0 = 6 ∨ 0 = 7 from z) (by omega)⟩
        simp (disch := first | assumption | omega | decide | (simp only [List.length_cons, List.length_nil, Nat.reduceAdd, Nat.reduceLT]; done) | fail) only [r2_93, r2_94, r2_97, r2_97n, r2_98, r2_101, r2_101n, r2_102, r2_105, r2_109, r2_110, r2_111, r2_113, r2_116, r2_117, r2_119, eq_true y0, y6, y7, hz0 hO hb, hz5 hO hb, sz5 hO hb, pL, q2_106 kw ci2, oGF_is, WPo_some, List.getElem?_cons_succ, List.getElem?_cons_zero, kil_n, kil_i, kil_a, kil_u, kil_l, Option.toList_some, Option.toList_none, List.cons_append, List.nil_append, List.set_cons_succ, List.set_cons_zero, addm1, Nat.reduceAdd, List.length_cons, List.length_nil, Nat.reduceLT, nI_clamp, nI_toInt, nI_leL, nI_Lle, nI_ltL, nI_Llt, nI_eqL, nI_Leq, nI_leE, nI_ltE, nI_eqE, nI_eqM, nI_add, nI_addL, nI_Ladd, nI_mulL, nI_Lmul, pk_mul, pk_sub, nI_subL, nI_Lsub, i2l_nI, Int.toNat_natCast, Nat.not_lt_zero, Nat.zero_le, ifT, ifF, not_true_eq_false, not_false_eq_true, if_true, if_false, or_self, and_self, true_and, and_true, or_true, true_or, false_or, or_false, false_and, and_false]
        exact e
      · have eC : rdC T n p = (tkC T n 3 (rdP T n (plc (kdN T n p)) 0 (gon (nxE T n p)) (fun _ => 0)).2, (kdN T n p, 0, (rdP T n (plc (kdN T n p)) 0 (gon (nxE T n p)) (fun _ => 0)).1, 0, 0)) := by
          unfold rdC
          rw [if_neg y, if_neg y0]
        generalize hR : rdP T n (plc (kdN T n p)) 0 (gon (nxE T n p)) (fun _ => 0) = R at *
        have e := l_re (c := c + 5) (kd := upd kd cn (nI (kdN T n p))) (wn := upd wn cn 0) (nm := nm') (ls := ls) (wl := wl) hO h13 hn hb hc (s := R.2) ok (l2 := some (.int (nI (kdN T n p)))) (l3 := some (.int (nI (plc (kdN T n p))))) (l4 := l4) (Q := Q) ⟨rfl, _, _, _, _, _, by rw [eC], fun i hi => ⟨upd_ne (by omega), upd_ne (by omega), rfl, rfl, fun j hj' => hq _ (by omega)⟩, fun hf => by
            rw [eC] at hf ⊢
            refine ⟨upd_at, upd_at, fun j hj' => ?_, fun z => absurd z y, fun z => absurd z y0⟩
            have hR0 : R.2.2.1 = 0 := by
              by_cases w : R.2.2.1 = 0
              · exact w
              · exfalso
                have e2 : tkC T n 3 R.2 = R.2 := by unfold tkC; rw [if_neg w]
                dsimp only at hf
                rw [e2] at hf
                exact w hf
            exact hj hR0 j hj'⟩
        simp (disch := first | assumption | omega | decide | (simp only [List.length_cons, List.length_nil, Nat.reduceAdd, Nat.reduceLT]; done) | fail) only [r2_93, r2_94, r2_97, r2_97n, r2_98, r2_101, r2_101n, r2_102, r2_105, r2_109, r2_110, r2_111, r2_113, r2_116, r2_117, r2_119, y0, y6, y7, oGF_is, WPo_some, List.getElem?_cons_succ, List.getElem?_cons_zero, kil_n, kil_i, kil_a, kil_u, kil_l, Option.toList_some, Option.toList_none, List.cons_append, List.nil_append, List.set_cons_succ, List.set_cons_zero, addm1, Nat.reduceAdd, List.length_cons, List.length_nil, Nat.reduceLT, nI_clamp, nI_toInt, nI_leL, nI_Lle, nI_ltL, nI_Llt, nI_eqL, nI_Leq, nI_leE, nI_ltE, nI_eqE, nI_eqM, nI_add, nI_addL, nI_Ladd, nI_mulL, nI_Lmul, pk_mul, pk_sub, nI_subL, nI_Lsub, i2l_nI, Int.toNat_natCast, Nat.not_lt_zero, Nat.zero_le, ifT, ifF, not_true_eq_false, not_false_eq_true, if_true, if_false, or_self, and_self, true_and, and_true, or_true, true_or, false_or, or_false, false_and, and_false]
        exact e
  obtain ⟨r1, a1, ⟨e1, kd', wn', nm', ls', wl', e2, e3, e4⟩, w⟩ := WP.ex main
  subst e1 e2
  refine ⟨kd', wn', nm', ls', wl', e2 ?_, e3, e4⟩
  simp (disch := first | assumption | omega | decide | (simp only [List.length_cons, List.length_nil, Nat.reduceAdd, Nat.reduceLT]; done) | fail) only [r2_0, r2_4, r2_5, r2_6, r2_7, r2_10, r2_11, r2_15, r2_16, r2_16n, r2_20, r2_23, r2_24, r2_28, r2_29, r2_33, r2_33n, r2_34, r2_37, r2_37n, r2_38, r2_41, r2_42, r2_43, r2_43n, r2_44, r2_47, r2_47n, r2_48, r2_51, r2_52, r2_53, r2_57, r2_58, r2_59, q2_1 k0 ci, q2_17 kF (dk_ci hO hb), q2_30 kn ci, q2_54 kp, hz0 hO hb, hz1 hO hb, hz2 hO hb, sz1 hO hb, sz2 hO hb, pI, hc40, b2i_eq0, oGF_is, WPo_some, List.getElem?_cons_succ, List.getElem?_cons_zero, kil_n, kil_i, kil_a, kil_u, kil_l, Option.toList_some, Option.toList_none, List.cons_append, List.nil_append, List.set_cons_succ, List.set_cons_zero, addm1, Nat.reduceAdd, List.length_cons, List.length_nil, Nat.reduceLT, nI_clamp, nI_toInt, nI_leL, nI_Lle, nI_ltL, nI_Llt, nI_eqL, nI_Leq, nI_leE, nI_ltE, nI_eqE, nI_eqM, nI_add, nI_addL, nI_Ladd, nI_mulL, nI_Lmul, pk_mul, pk_sub, nI_subL, nI_Lsub, i2l_nI, Int.toNat_natCast, Nat.not_lt_zero, Nat.zero_le, ifT, ifF, not_true_eq_false, not_false_eq_true, if_true, if_false, or_self, and_self, true_and, and_true, or_true, true_or, false_or, or_false, false_and, and_false]
  exact w
end RCX

/-! The model's cards: a card -/
noncomputable def mkI (ai : Nat → Nat → Int32) (al : Nat → Nat → Int64) (i : Nat) (C : aCd) : Prop := ai 49 i = nI C.1 ∧ ai 54 i = nI C.2.1 ∧ (0 < plc C.1 → ai 50 i = nI (C.2.2.1 0)) ∧ (1 < plc C.1 → ai 51 i = nI (C.2.2.1 1)) ∧ (2 < plc C.1 → ai 52 i = nI (C.2.2.1 2)) ∧ (3 < plc C.1 → ai 53 i = nI (C.2.2.1 3)) ∧ (C.1 = 6 ∨ C.1 = 7 → ai 50 i = nI (C.2.2.1 0) ∧ ai 55 i = nI C.2.2.2.1) ∧ (C.1 = 0 → al 57 i = C.2.2.2.2)
noncomputable def mkA (ai ai' : Nat → Nat → Int32) (al al' : Nat → Nat → Int64) (cn : Nat) : Prop := (∀ k q, (¬ (49 ≤ k ∧ k ≤ 55) ∨ q ≠ cn) → ai' k q = ai k q) ∧ ∀ k q, (¬ k = 57 ∨ q ≠ cn) → al' k q = al k q
section MRC
variable {E : aEnv} {c m : Nat} {ah : aHp} {ma : Nat → Nat} {v : Nat → Value} {ai : Nat → Nat → Int32} {al : Nat → Nat → Int64} {T : Nat → Int32} {n : Nat}
theorem rdP_ne {z i : Nat} {s : aPs} {f : Nat → Nat} (h : ¬ s.2.1 = 0) : rdP T n z i s f = (f, s) := by
  cases z with
  | zero => rfl
  | succ z =>
    unfold rdP
    rw [if_neg h]
theorem rdP_M {z i : Nat} {s : aPs} {f : Nat → Nat} : (rdP T n (z + 1) i s f).2 = (rdP T n z (i + 1) (rdM T n 0 19 s).2 (fnu f i (rdM T n 0 19 s).1)).2 ∧ ((rdP T n (z + 1) i s f).2.2.1 = 0 → (rdP T n (z + 1) i s f).1 = (rdP T n z (i + 1) (rdM T n 0 19 s).2 (fnu f i (rdM T n 0 19 s).1)).1) := by
  by_cases h : s.2.1 = 0
  · have e1 : rdP T n (z + 1) i s f = rdP T n z (i + 1) (rdN T n 0 19 s.1).2 (fnu f i (rdN T n 0 19 s.1).1) := by
      show (if s.2.1 = 0 then _ else _) = _
      rw [if_pos h]
    have e2 : rdM T n 0 19 s = rdN T n 0 19 s.1 := if_pos h
    rw [e1, e2]
    exact ⟨rfl, fun _ => rfl⟩
  · have e2 : rdM T n 0 19 s = (0, s) := if_neg h
    rw [rdP_ne h, e2]
    dsimp only
    rw [rdP_ne h]
    exact ⟨rfl, fun z => absurd z h⟩
theorem rdM_0 {lo hi : Nat} {s : aPs} (h : (rdM T n lo hi s).2.2.1 = 0) : s.2.1 = 0 := by
  unfold rdM at h
  by_cases y : s.2.1 = 0
  · exact y
  · rw [if_neg y] at h
    exact absurd h y
theorem tkC_0 {d : Nat} {s : aPs} (h : (tkC T n d s).2.1 = 0) : s.2.1 = 0 := by
  unfold tkC at h
  by_cases y : s.2.1 = 0
  · exact y
  · rw [if_neg y] at h
    exact absurd h y
/-- the end of a card -/
theorem l_me (h : MO E ah m ma) (hT : ai 28 = T) (hn : n ≤ 500) {s : aPs} (hs : okP n s) (hc : cdM v T n s) {cn : Nat} (h42 : v 42 = .int (nI cn)) {l1 l2 : Option Value} : ∃ v', WP E (c + 3) 247 186 [some (.ref m), l1, l2] [] (mh E ah m ma v ai al) (fun r x => r = none ∧ x = mh E ah m ma v' ai al) ∧ cdM v' T n (tkC T n 3 s) ∧ v' 42 = .int (nI (if (tkC T n 3 s).2.1 = 0 then cn + 1 else cn)) ∧ ∀ k, ¬ (33 ≤ k ∧ k ≤ 40) → k ≠ 42 → v' k = v k := by
  have ok2 := hs.2.1
  have h2 : v 33 = .int (nI s.2.1) := hc.2.1
  by_cases f : s.2.1 = 0
  · have eg := gon_eq hs f
    have hc1 : cdM v T n (gon s.1) := by rw [eg]; exact hc
    have k1 := m_isSemi (E := E) (c := c + 2) (ai := ai) (al := al) h hc
    have eT : tkC T n 3 s = if nxT T n s.1 = 3 then gon (nxE T n s.1) else flt T n s.1 2 := if_pos f
    rw [eT]
    by_cases y : nxT T n s.1 = 3
    · rw [if_pos y]
      obtain ⟨v1, k2, c2, f2⟩ := m_nextP (E := E) (c := c) (v := v) (ai := ai) (al := al) h hT hn hs.1 hc1
      have g42 : v1 42 = .int (nI cn) := by rw [f2 42 (by omega), h42]
      refine ⟨vu v1 42 (.int (nI (cn + 1))), ?_, ?_, vu_at, fun k h1 h2 => by rw [vu_ne h2, f2 k h1]⟩
      · simp (disch := first | assumption | omega | decide | (simp only [List.length_cons, List.length_nil, Nat.reduceAdd, Nat.reduceLT]; done) | fail) only [r247_186, r247_187, r247_190, r247_193, r247_194, r247_199, r247_202, r247_206, r247_207, r247_210, r247_213, r247_214, r247_218, r247_219, r247_219i, r247_220, r247_223, r247_224, r247_225, r247_228, mh_o h, mh_put h, gm_33, gm_42, pm_42, h2, g42, eq_true f, show s.2.1 ≤ 0 by omega, q247_196 k1 h.ci, q247_215 k2 h.ci, b2i_eq0, y, WPo_some, List.getElem?_cons_succ, List.getElem?_cons_zero, kil_n, kil_i, kil_a, kil_u, kil_l, Option.toList_some, Option.toList_none, List.cons_append, List.nil_append, List.set_cons_succ, List.set_cons_zero, addm1, Nat.reduceAdd, List.length_cons, List.length_nil, Nat.reduceLT, nI_clamp, nI_toInt, nI_leL, nI_Lle, nI_ltL, nI_Llt, nI_eqL, nI_Leq, nI_leE, nI_ltE, nI_eqE, nI_eqM, nI_add, nI_addL, nI_Ladd, nI_mulL, nI_Lmul, pk_mul, pk_sub, nI_subL, nI_Lsub, i2l_nI, Int.toNat_natCast, Nat.not_lt_zero, Nat.zero_le, ifT, ifF, not_true_eq_false, not_false_eq_true, if_true, if_false, or_self, and_self, true_and, and_true, or_true, true_or, false_or, or_false, false_and, and_false]
      · obtain ⟨a1, a2, a3, a4, a5, a6, a7, a8, a9, a0⟩ := c2
        refine ⟨?_, ?_, fun z => ?_, ?_, ?_, ?_, fun z => ?_, fun z => ?_, fun z => ?_, fun z => ?_⟩
        · rw [vu_ne (by decide), a1]
        · rw [vu_ne (by decide), a2]
        · rw [vu_ne (by decide), a3 z]
        · rw [vu_ne (by decide), a4]
        · rw [vu_ne (by decide), a5]
        · rw [vu_ne (by decide), a6]
        · rw [vu_ne (by decide), a7 z]
        · rw [vu_ne (by decide), a8 z]
        · rw [vu_ne (by decide), a9 z]
        · rw [vu_ne (by decide), a0 z]
    · rw [if_neg y]
      obtain ⟨v1, k2, c2, f2⟩ := m_wrongR (E := E) (c := c + 1) (v := v) (ai := ai) (al := al) h hc1
      have hr := rfK_rg (T := T) (n := n) (p := s.1) (k := 2) (by decide) (by decide)
      have g33 : v1 33 = .int (nI (rfK T n s.1 2)) := c2.2.1
      refine ⟨v1, ?_, c2, ?_, fun k h1 h2 => f2 k h1⟩
      · simp (disch := first | assumption | omega | decide | (simp only [List.length_cons, List.length_nil, Nat.reduceAdd, Nat.reduceLT]; done) | fail) only [r247_186, r247_187, r247_190, r247_193, r247_194, r247_199, r247_202, r247_206, r247_207, r247_210, r247_213, mh_o h, gm_33, h2, g33, eq_true f, q247_196 k1 h.ci, q247_203 k2 h.ci, b2i_eq0, y, show ¬ rfK T n s.1 2 ≤ 0 by omega, WPo_some, List.getElem?_cons_succ, List.getElem?_cons_zero, kil_n, kil_i, kil_a, kil_u, kil_l, Option.toList_some, Option.toList_none, List.cons_append, List.nil_append, List.set_cons_succ, List.set_cons_zero, addm1, Nat.reduceAdd, List.length_cons, List.length_nil, Nat.reduceLT, nI_clamp, nI_toInt, nI_leL, nI_Lle, nI_ltL, nI_Llt, nI_eqL, nI_Leq, nI_leE, nI_ltE, nI_eqE, nI_eqM, nI_add, nI_addL, nI_Ladd, nI_mulL, nI_Lmul, pk_mul, pk_sub, nI_subL, nI_Lsub, i2l_nI, Int.toNat_natCast, Nat.not_lt_zero, Nat.zero_le, ifT, ifF, not_true_eq_false, not_false_eq_true, if_true, if_false, or_self, and_self, true_and, and_true, or_true, true_or, false_or, or_false, false_and, and_false]
      · rw [f2 42 (by omega), h42, if_neg (flt_ne (by decide) (by decide))]
  · have eT : tkC T n 3 s = s := if_neg f
    rw [eT, if_neg f]
    refine ⟨v, ?_, hc, h42, fun _ _ _ => rfl⟩
    simp (disch := first | assumption | omega | decide | (simp only [List.length_cons, List.length_nil, Nat.reduceAdd, Nat.reduceLT]; done) | fail) only [r247_186, r247_187, r247_190, r247_193, r247_194, r247_199, r247_202, r247_206, r247_207, r247_210, r247_213, mh_o h, gm_33, h2, f, show ¬ s.2.1 ≤ 0 by omega, WPo_some, List.getElem?_cons_succ, List.getElem?_cons_zero, kil_n, kil_i, kil_a, kil_u, kil_l, Option.toList_some, Option.toList_none, List.cons_append, List.nil_append, List.set_cons_succ, List.set_cons_zero, addm1, Nat.reduceAdd, List.length_cons, List.length_nil, Nat.reduceLT, nI_clamp, nI_toInt, nI_leL, nI_Lle, nI_ltL, nI_Llt, nI_eqL, nI_Leq, nI_leE, nI_ltE, nI_eqE, nI_eqM, nI_add, nI_addL, nI_Ladd, nI_mulL, nI_Lmul, pk_mul, pk_sub, nI_subL, nI_Lsub, i2l_nI, Int.toNat_natCast, Nat.not_lt_zero, Nat.zero_le, ifT, ifF, not_true_eq_false, not_false_eq_true, if_true, if_false, or_self, and_self, true_and, and_true, or_true, true_or, false_or, or_false, false_and, and_false]
theorem m_readCard_k (h : MO E ah m ma) {p : Nat} (hc : cdM v T n (gon p)) (hk : kdN T n p = 8) : ∃ v', EV E (c + 2) 247 [.ref m] (mh E ah m ma v ai al) none (mh E ah m ma v' ai al) ∧ cdM v' T n (flt T n p 2) ∧ frR v v' := by
  have k0 := m_cardKind (E := E) (c := c) (ai := ai) (al := al) h hc
  rw [show (gon p).1 = p from rfl, if_pos hk] at k0
  obtain ⟨v1, k2, c2, f2⟩ := m_wrongR (E := E) (c := c) (v := v) (ai := ai) (al := al) h hc
  have hr := rfK_rg (T := T) (n := n) (p := p) (k := 2) (by decide) (by decide)
  have g33 : v1 33 = .int (nI (rfK T n p 2)) := c2.2.1
  refine ⟨v1, e247 ?_, c2, f2⟩
  simp (disch := first | assumption | omega | decide | (simp only [List.length_cons, List.length_nil, Nat.reduceAdd, Nat.reduceLT]; done) | fail) only [r247_0, r247_4, r247_5, r247_6, r247_9, r247_13, r247_14, r247_17, r247_20, r247_21, r247_24, r247_26, r247_29, r247_30, r247_31, r247_32, r247_38, r247_39, r247_42, r247_45, mh_o h, gm_33, g33, q247_1 k0 h.ci, q247_10 k2 h.ci, show ¬ rfK T n p 2 ≤ 0 by omega, show ¬ rfK T n p 2 = 0 by omega, show ¬ (0 : Int32) ≤ -1 by decide, WPo_some, List.getElem?_cons_succ, List.getElem?_cons_zero, kil_n, kil_i, kil_a, kil_u, kil_l, Option.toList_some, Option.toList_none, List.cons_append, List.nil_append, List.set_cons_succ, List.set_cons_zero, addm1, Nat.reduceAdd, List.length_cons, List.length_nil, Nat.reduceLT, nI_clamp, nI_toInt, nI_leL, nI_Lle, nI_ltL, nI_Llt, nI_eqL, nI_Leq, nI_leE, nI_ltE, nI_eqE, nI_eqM, nI_add, nI_addL, nI_Ladd, nI_mulL, nI_Lmul, pk_mul, pk_sub, nI_subL, nI_Lsub, i2l_nI, Int.toNat_natCast, Nat.not_lt_zero, Nat.zero_le, ifT, ifF, not_true_eq_false, not_false_eq_true, if_true, if_false, or_self, and_self, true_and, and_true, or_true, true_or, false_or, or_false, false_and, and_false]
theorem m_readCard_f (h : MO E ah m ma) {p : Nat} (hc : cdM v T n (gon p)) (hk : ¬ kdN T n p = 8) (h42 : v 42 = .int (nI 40)) : ∃ v', EV E (c + 2) 247 [.ref m] (mh E ah m ma v ai al) none (mh E ah m ma v' ai al) ∧ cdM v' T n (flt T n p 3) ∧ frR v v' := by
  have h8 := kdN_le (T := T) (n := n) (p := p)
  have k0 := m_cardKind (E := E) (c := c) (ai := ai) (al := al) h hc
  rw [show (gon p).1 = p from rfl, if_neg hk] at k0
  have h33 : v 33 = .int 0 := hc.2.1
  have h36 : v 36 = .int (nI (nxS T n p)) := hc.2.2.2.2.1
  have w1 := kd_word hk
  have e3 : flt T n p 3 = (p, 3, nI (nxS T n p)) := by
    unfold flt rfK
    rw [if_neg (by omega)]
  have k := m_fail (E := E) (c := c + 1) (ai := ai) (al := al) h h33 (x := 3) (y := nI (nxS T n p))
  have e4 : vu (vu v 33 (.int 3)) 34 (.int (nI (nxS T n p))) 33 = .int 3 := by rw [vu_ne (by decide), vu_at]
  rw [e3]
  refine ⟨_, e247 ?_, cdM_flt (k := 3) (by decide) hc, fr_flt⟩
  simp (disch := first | assumption | omega | decide | (simp only [List.length_cons, List.length_nil, Nat.reduceAdd, Nat.reduceLT]; done) | fail) only [r247_0, r247_4, r247_5, r247_6, r247_9, r247_13, r247_14, r247_17, r247_20, r247_21, r247_24, r247_26, r247_29, r247_30, r247_31, r247_32, r247_38, r247_39, r247_42, r247_45, mh_o h, gm_33, gm_42, gm_36, h33, h36, h42, e4, q247_1 k0 h.ci, q247_35 k h.ci, show ¬ (3 : Int32) ≤ 0 by decide, WPo_some, List.getElem?_cons_succ, List.getElem?_cons_zero, kil_n, kil_i, kil_a, kil_u, kil_l, Option.toList_some, Option.toList_none, List.cons_append, List.nil_append, List.set_cons_succ, List.set_cons_zero, addm1, Nat.reduceAdd, List.length_cons, List.length_nil, Nat.reduceLT, nI_clamp, nI_toInt, nI_leL, nI_Lle, nI_ltL, nI_Llt, nI_eqL, nI_Leq, nI_leE, nI_ltE, nI_eqE, nI_eqM, nI_add, nI_addL, nI_Ladd, nI_mulL, nI_Lmul, pk_mul, pk_sub, nI_subL, nI_Lsub, i2l_nI, Int.toNat_natCast, Nat.not_lt_zero, Nat.zero_le, ifT, ifF, not_true_eq_false, not_false_eq_true, if_true, if_false, or_self, and_self, true_and, and_true, or_true, true_or, false_or, or_false, false_and, and_false]
  exact rfl
end MRC

/-! The law's loop -/
noncomputable def INV (E : aEnv) (B : aHp) (A : Nat → Nat) (m : Nat) (ma : Nat → Nat) (S : Nat → aE) (v : Nat → Value) (ai : Nat → Nat → Int32) (al : Nat → Nat → Int64) (en : Nat) : Prop := CX E B A m ma en ∧ RLN A S v ai al en ∧ B.length = 142 + 11 * en
theorem rTy.i {k : Nat} {r : Value} (h : rTy k r) (hk : isL k = false) : ∃ x, r = .int x := by
  unfold rTy at h
  rw [if_neg (by rw [hk]; decide)] at h
  exact h
theorem rTy.l {k : Nat} {r : Value} (h : rTy k r) (hk : isL k = true) : ∃ x, r = .long x := by
  unfold rTy at h
  rw [if_pos hk] at h
  exact h
section LOOP
variable {E : aEnv} {c s n m : Nat} {f : Nat → Int32} {A : Nat → Nat} {ma : Nat → Nat}
theorem INV_step {kx km : Nat} {As : List Value} {B : aHp} {S : Nat → aE} {v : Nat → Value} {ai : Nat → Nat → Int32} {al : Nat → Nat → Int64} {en : Nat} (hI : INV E B A m ma S v ai al en) (h : STP E c B A m ma kx km As S v ai al en) : ∃ r B' S' v' ai' al' en', EV E c kx (.ref (A 0) :: As) (oh E (mh E B m ma v ai al) A S) (some r) (oh E (mh E B' m ma v ai al) A S') ∧ EV E c km (.ref m :: As) (oh E (mh E B' m ma v ai al) A S') (some r) (oh E (mh E B' m ma v' ai' al') A S') ∧ rTy kx r ∧ INV E B' A m ma S' v' ai' al' en' ∧ oCI (hg E (oh E (mh E B m ma v ai al) A S) (A 0)) = 10 ∧ oCI (hg E (oh E (mh E B' m ma v ai al) A S') m) = 11 := by
  obtain ⟨hC, hR, hl⟩ := hI
  obtain ⟨r, B', S', v', ai', al', en', ex, em, hR', hr, hB⟩ := h
  have hA := hC.1.1
  have hp := hC.2.1
  rw [← oh_mh hA hp, ← oh_mh hA hp] at em
  have e4 : en ≤ 4 := by
    obtain ⟨tx, sp, hT, tl, st, sr, mn, tn, ax, wh, rx, fg, tu, ms, mq, h⟩ := hR
    exact h.2.2.1.1.1
  have hC' : CX E B' A m ma en' ∧ B'.length = 142 + 11 * en' := by
    rcases hB with ⟨rfl, rfl⟩ | ⟨rfl, rfl⟩
    · exact ⟨hC, hl⟩
    · have := NW_app (n := 11) hC.1 (by omega)
      exact ⟨⟨by rw [show 81 + 11 * (en + 1) = 81 + 11 * en + 11 by omega]; exact this, hp, MO_app hC.2.2⟩, by rw [dR_len]; omega⟩
  refine ⟨r, B', S', v', ai', al', en', ex, em, hr, ⟨hC'.1, hR', hC'.2⟩, ?_, ?_⟩
  · obtain ⟨tx, sp, hT, tl, st, sr, mn, tn, ax, wh, rx, fg, tu, ms, mq, h⟩ := hR
    rw [hx_0 hC.o, h.1.1]
    rfl
  · rw [oh_other (fun k => (hp k).1), mh_o hC'.1.2.2]
    rfl
theorem key6 {i : Nat} (hn : n ≤ 3072) (hi : i ≤ n) : (nI n - 6 < nI i) = (n < i + 6) := by
  apply propext
  by_cases h : 6 ≤ n
  · rw [nI_subL (by omega), nI_ltE (by omega) (by omega)]
    omega
  · have : ∀ k, k < 6 → (nI k - 6 : Int32).toInt = (k : Int) - 6 := by decide
    rw [i32_lt, this n (by omega), nI_toInt (by omega)]
    omega
theorem INV_len {B : aHp} {S : Nat → aE} {v : Nat → Value} {ai : Nat → Nat → Int32} {al : Nat → Nat → Int64} {en : Nat} (hI : INV E B A m ma S v ai al en) : (oh E (mh E B m ma v ai al) A S).length ≤ 300 := by
  obtain ⟨hC, ⟨tx, sp, hT, tl, st, sr, mn, tn, ax, wh, rx, fg, tu, ms, mq, h⟩, hl⟩ := hI
  have e4 : en ≤ 4 := h.2.2.1.1.1
  rw [oh_len, mh_len]
  omega
theorem l_law (hs : SC E s n f) (hE : StE E) (hE2 : ErE E) : ∀ z i B S v ai al en, n ≤ i + 6 * z → i ≤ n → INV E B A m ma S v ai al en → WP E (c + 13) 298 18 [some (.ref s), some (.ref (A 0)), some (.ref m), some (.int (nI i))] [] (oh E (mh E B m ma v ai al) A S) (fun r a => r = some (.int 1) ∧ a.length ≤ 300) := by
  intro z
  have h3 := hs.2.2
  induction z with
  | zero =>
    intro i B S v ai al en hz hi hI
    rw [r298_18]
    have hI2 := INV_len (ai := ai) (al := al) hI
    simp (disch := first | assumption | omega | decide | (simp only [List.length_cons, List.length_nil, Nat.reduceAdd, Nat.reduceLT]; done) | fail) only [r298_19, r298_19n, r298_20, r298_21, r298_23, r298_24, hs.gn, key6 h3 hi, oGF_is, WPo_some, List.getElem?_cons_succ, List.getElem?_cons_zero, kil_n, kil_i, kil_a, kil_u, kil_l, Option.toList_some, Option.toList_none, List.cons_append, List.nil_append, List.set_cons_succ, List.set_cons_zero, addm1, Nat.reduceAdd, List.length_cons, List.length_nil, Nat.reduceLT, nI_clamp, nI_toInt, nI_leL, nI_Lle, nI_ltL, nI_Llt, nI_eqL, nI_Leq, nI_leE, nI_ltE, nI_eqE, nI_eqM, nI_add, nI_addL, nI_Ladd, nI_mulL, nI_Lmul, pk_mul, pk_sub, nI_subL, nI_Lsub, i2l_nI, Int.toNat_natCast, Nat.not_lt_zero, Nat.zero_le, ifT, ifF, not_true_eq_false, not_false_eq_true, if_true, if_false, or_self, and_self, true_and, and_true, or_true, true_or, false_or, or_false, false_and, and_false]
    simp (disch := first | assumption | omega | decide | (simp only [List.length_cons, List.length_nil, Nat.reduceAdd, Nat.reduceLT]; done) | fail) only [r298_1607, r298_1608 (x := 0) (Or.inl rfl), r298_1608 (x := 1) (Or.inr rfl), r298_1608 (b2i_or _), hI2, oGF_is, WPo_some, List.getElem?_cons_succ, List.getElem?_cons_zero, kil_n, kil_i, kil_a, kil_u, kil_l, Option.toList_some, Option.toList_none, List.cons_append, List.nil_append, List.set_cons_succ, List.set_cons_zero, addm1, Nat.reduceAdd, List.length_cons, List.length_nil, Nat.reduceLT, nI_clamp, nI_toInt, nI_leL, nI_Lle, nI_ltL, nI_Llt, nI_eqL, nI_Leq, nI_leE, nI_ltE, nI_eqE, nI_eqM, nI_add, nI_addL, nI_Ladd, nI_mulL, nI_Lmul, pk_mul, pk_sub, nI_subL, nI_Lsub, i2l_nI, Int.toNat_natCast, Nat.not_lt_zero, Nat.zero_le, ifT, ifF, not_true_eq_false, not_false_eq_true, if_true, if_false, or_self, and_self, true_and, and_true, or_true, true_or, false_or, or_false, false_and, and_false]
  | succ z ih =>
    intro i B S v ai al en hz hi hI
    rw [r298_18]
    simp (disch := first | assumption | omega | decide | (simp only [List.length_cons, List.length_nil, Nat.reduceAdd, Nat.reduceLT]; done) | fail) only [r298_19, r298_19n, r298_20, r298_21, r298_23, r298_24, hs.gn, key6 h3 hi, oGF_is, WPo_some, List.getElem?_cons_succ, List.getElem?_cons_zero, kil_n, kil_i, kil_a, kil_u, kil_l, Option.toList_some, Option.toList_none, List.cons_append, List.nil_append, List.set_cons_succ, List.set_cons_zero, addm1, Nat.reduceAdd, List.length_cons, List.length_nil, Nat.reduceLT, nI_clamp, nI_toInt, nI_leL, nI_Lle, nI_ltL, nI_Llt, nI_eqL, nI_Leq, nI_leE, nI_ltE, nI_eqE, nI_eqM, nI_add, nI_addL, nI_Ladd, nI_mulL, nI_Lmul, pk_mul, pk_sub, nI_subL, nI_Lsub, i2l_nI, Int.toNat_natCast, Nat.not_lt_zero, Nat.zero_le, ifT, ifF, not_true_eq_false, not_false_eq_true, if_true, if_false, or_self, and_self, true_and, and_true, or_true, true_or, false_or, or_false, false_and, and_false]
    by_cases hlt : n < i + 6
    · rw [if_pos hlt]
      have hI2 := INV_len (ai := ai) (al := al) hI
      simp (disch := first | assumption | omega | decide | (simp only [List.length_cons, List.length_nil, Nat.reduceAdd, Nat.reduceLT]; done) | fail) only [r298_1607, r298_1608 (x := 0) (Or.inl rfl), r298_1608 (x := 1) (Or.inr rfl), r298_1608 (b2i_or _), hI2, oGF_is, WPo_some, List.getElem?_cons_succ, List.getElem?_cons_zero, kil_n, kil_i, kil_a, kil_u, kil_l, Option.toList_some, Option.toList_none, List.cons_append, List.nil_append, List.set_cons_succ, List.set_cons_zero, addm1, Nat.reduceAdd, List.length_cons, List.length_nil, Nat.reduceLT, nI_clamp, nI_toInt, nI_leL, nI_Lle, nI_ltL, nI_Llt, nI_eqL, nI_Leq, nI_leE, nI_ltE, nI_eqE, nI_eqM, nI_add, nI_addL, nI_Ladd, nI_mulL, nI_Lmul, pk_mul, pk_sub, nI_subL, nI_Lsub, i2l_nI, Int.toNat_natCast, Nat.not_lt_zero, Nat.zero_le, ifT, ifF, not_true_eq_false, not_false_eq_true, if_true, if_false, or_self, and_self, true_and, and_true, or_true, true_or, false_or, or_false, false_and, and_false]
    rw [if_neg hlt]
    have h6 : i + 6 ≤ n := by omega
    have K : ∀ B S v ai al en, INV E B A m ma S v ai al en → WP E (c + 13) 298 1601 [some (.ref s), some (.ref (A 0)), some (.ref m), some (.int (nI i))] [] (oh E (mh E B m ma v ai al) A S) (fun r a => r = some (.int 1) ∧ a.length ≤ 300) := by
      intro B S v ai al en hI
      have := ih (i + 6) B S v ai al en (by omega) (by omega) hI
      rw [r298_1601]
      simp (disch := first | assumption | omega | decide | (simp only [List.length_cons, List.length_nil, Nat.reduceAdd, Nat.reduceLT]; done) | fail) only [r298_1604, oGF_is, WPo_some, List.getElem?_cons_succ, List.getElem?_cons_zero, kil_n, kil_i, kil_a, kil_u, kil_l, Option.toList_some, Option.toList_none, List.cons_append, List.nil_append, List.set_cons_succ, List.set_cons_zero, addm1, Nat.reduceAdd, List.length_cons, List.length_nil, Nat.reduceLT, nI_clamp, nI_toInt, nI_leL, nI_Lle, nI_ltL, nI_Llt, nI_eqL, nI_Leq, nI_leE, nI_ltE, nI_eqE, nI_eqM, nI_add, nI_addL, nI_Ladd, nI_mulL, nI_Lmul, pk_mul, pk_sub, nI_subL, nI_Lsub, i2l_nI, Int.toNat_natCast, Nat.not_lt_zero, Nat.zero_le, ifT, ifF, not_true_eq_false, not_false_eq_true, if_true, if_false, or_self, and_self, true_and, and_true, or_true, true_or, false_or, or_false, false_and, and_false]
      exact this
    simp (disch := first | assumption | omega | decide | (simp only [List.length_cons, List.length_nil, Nat.reduceAdd, Nat.reduceLT]; done) | fail) only [r298_27, r298_27n, r298_28, r298_29, r298_30, r298_32, hs.gi, oGF_is, WPo_some, List.getElem?_cons_succ, List.getElem?_cons_zero, kil_n, kil_i, kil_a, kil_u, kil_l, Option.toList_some, Option.toList_none, List.cons_append, List.nil_append, List.set_cons_succ, List.set_cons_zero, addm1, Nat.reduceAdd, List.length_cons, List.length_nil, Nat.reduceLT, nI_clamp, nI_toInt, nI_leL, nI_Lle, nI_ltL, nI_Llt, nI_eqL, nI_Leq, nI_leE, nI_ltE, nI_eqE, nI_eqM, nI_add, nI_addL, nI_Ladd, nI_mulL, nI_Lmul, pk_mul, pk_sub, nI_subL, nI_Lsub, i2l_nI, Int.toNat_natCast, Nat.not_lt_zero, Nat.zero_le, ifT, ifF, not_true_eq_false, not_false_eq_true, if_true, if_false, or_self, and_self, true_and, and_true, or_true, true_or, false_or, or_false, false_and, and_false]
    by_cases hx : (f i &&& 63).toInt < 0 ∨ 36 < (f i &&& 63).toInt
    · rw [r298_33_d hx]
      exact K B S v ai al en hI
    obtain ⟨k, hk, ek⟩ := i32_nat (x := f i &&& 63) (n := 37) (by omega) (by omega)
    rw [ek]
    have hI' := hI
    obtain ⟨hC, ⟨tx, sp, hT, tl, st, sr, mn, tn, ax, wh, rx, fg, tu, ms, mq, h⟩, hl⟩ := hI'
    have h : RX A S v ai al en tx sp hT tl st sr mn tn ax wh rx fg tu ms mq := h
    match k, hk with
    | 0, _ =>
      obtain ⟨r, B', S', v', ai', al', en', ex, em, hr, hJ, cx, cm⟩ := INV_step hI (s_status (c := c) hC h)
      obtain ⟨r, rfl⟩ := hr.i rfl
      show WP E (c + 13) 298 33 _ [.int 0] _ _
      rw [r298_33_0]
      exact w_0 hs h6 ex cx em cm (K B' S' v' ai' al' en' hJ)
    | 1, _ =>
      obtain ⟨r, B', S', v', ai', al', en', ex, em, hr, hJ, cx, cm⟩ := INV_step hI (s_tray (c := c) hC h (x := f (i + 1)) (y := f (i + 2)) (z := f (i + 3)))
      obtain ⟨r, rfl⟩ := hr.i rfl
      show WP E (c + 13) 298 33 _ [.int 1] _ _
      rw [r298_33_1]
      exact w_1 hs h6 ex cx em cm (K B' S' v' ai' al' en' hJ)
    | 2, _ =>
      obtain ⟨r, B', S', v', ai', al', en', ex, em, hr, hJ, cx, cm⟩ := INV_step hI (s_write (c := c) hC h (x := f (i + 1)) (y := f (i + 2)) (z := lgS (f (i + 3)) (f (i + 4))))
      obtain ⟨r, rfl⟩ := hr.i rfl
      show WP E (c + 13) 298 33 _ [.int 2] _ _
      rw [r298_33_2]
      exact w_2 hs h6 ex cx em cm (K B' S' v' ai' al' en' hJ)
    | 3, _ =>
      obtain ⟨r, B', S', v', ai', al', en', ex, em, hr, hJ, cx, cm⟩ := INV_step hI (s_read (c := c) hC h (x := f (i + 1)) (y := f (i + 2)))
      obtain ⟨r, rfl⟩ := hr.l rfl
      show WP E (c + 13) 298 33 _ [.int 3] _ _
      rw [r298_33_3]
      exact w_3 hs h6 ex cx em cm (K B' S' v' ai' al' en' hJ)
    | 4, _ =>
      obtain ⟨r, B', S', v', ai', al', en', ex, em, hr, hJ, cx, cm⟩ := INV_step hI (s_pour (c := c) hC h (a := f (i + 1)) (b := f (i + 2)) (d := f (i + 3)) (e := f (i + 4)) (f := f (i + 5)))
      obtain ⟨r, rfl⟩ := hr.i rfl
      show WP E (c + 13) 298 33 _ [.int 4] _ _
      rw [r298_33_4]
      exact w_4 hs h6 ex cx em cm (K B' S' v' ai' al' en' hJ)
    | 5, _ =>
      obtain ⟨r, B', S', v', ai', al', en', ex, em, hr, hJ, cx, cm⟩ := INV_step hI (s_engine (c := c) hC h (x := f (i + 1)) (y := f (i + 2)) (z := f (i + 3)))
      obtain ⟨r, rfl⟩ := hr.i rfl
      show WP E (c + 13) 298 33 _ [.int 5] _ _
      rw [r298_33_5]
      exact w_5 hs h6 ex cx em cm (K B' S' v' ai' al' en' hJ)
    | 6, _ =>
      obtain ⟨r, B', S', v', ai', al', en', ex, em, hr, hJ, cx, cm⟩ := INV_step hI (s_figure (c := c) hC h (e := f (i + 1)) (x := f (i + 2)) (w := f (i + 3)))
      obtain ⟨r, rfl⟩ := hr.i rfl
      show WP E (c + 13) 298 33 _ [.int 6] _ _
      rw [r298_33_6]
      exact w_6 hs h6 ex cx em cm (K B' S' v' ai' al' en' hJ)
    | 7, _ =>
      obtain ⟨r, B', S', v', ai', al', en', ex, em, hr, hJ, cx, cm⟩ := INV_step hI (s_put (c := c) hC h (e := f (i + 1)) (x := f (i + 2)) (w := f (i + 3)) (f := f (i + 4)))
      obtain ⟨r, rfl⟩ := hr.i rfl
      show WP E (c + 13) 298 33 _ [.int 7] _ _
      rw [r298_33_7]
      exact w_7 hs h6 ex cx em cm (K B' S' v' ai' al' en' hJ)
    | 8, _ =>
      obtain ⟨r, B', S', v', ai', al', en', ex, em, hr, hJ, cx, cm⟩ := INV_step hI (s_number (c := c) hC h (e := f (i + 1)) (x := f (i + 2)))
      obtain ⟨r, rfl⟩ := hr.l rfl
      show WP E (c + 13) 298 33 _ [.int 8] _ _
      rw [r298_33_8]
      exact w_8 hs h6 ex cx em cm (K B' S' v' ai' al' en' hJ)
    | 9, _ =>
      obtain ⟨r, B', S', v', ai', al', en', ex, em, hr, hJ, cx, cm⟩ := INV_step hI (s_set (c := c) hC h (x := f (i + 1)) (y := f (i + 2)) (z := f (i + 3)))
      obtain ⟨r, rfl⟩ := hr.i rfl
      show WP E (c + 13) 298 33 _ [.int 9] _ _
      rw [r298_33_9]
      exact w_9 hs h6 ex cx em cm (K B' S' v' ai' al' en' hJ)
    | 10, _ =>
      obtain ⟨r, B', S', v', ai', al', en', ex, em, hr, hJ, cx, cm⟩ := INV_step hI (s_mishap (c := c) hC h (e := f (i + 1)) (t := f (i + 2)) (x := f (i + 3)) (w := f (i + 4)) (k := f (i + 5)))
      obtain ⟨r, rfl⟩ := hr.i rfl
      show WP E (c + 13) 298 33 _ [.int 10] _ _
      rw [r298_33_10]
      exact w_10 hs h6 ex cx em cm (K B' S' v' ai' al' en' hJ)
    | 11, _ =>
      obtain ⟨r, B', S', v', ai', al', en', ex, em, hr, hJ, cx, cm⟩ := INV_step hI (s_mend (c := c) hC h (e := f (i + 1)))
      obtain ⟨r, rfl⟩ := hr.i rfl
      show WP E (c + 13) 298 33 _ [.int 11] _ _
      rw [r298_33_11]
      exact w_11 hs h6 ex cx em cm (K B' S' v' ai' al' en' hJ)
    | 12, _ =>
      obtain ⟨r, B', S', v', ai', al', en', ex, em, hr, hJ, cx, cm⟩ := INV_step hI (s_turn (c := c) hC h (e := f (i + 1)) (n := f (i + 2)))
      obtain ⟨r, rfl⟩ := hr.i rfl
      show WP E (c + 13) 298 33 _ [.int 12] _ _
      rw [r298_33_12]
      exact w_12 hs h6 ex cx em cm (K B' S' v' ai' al' en' hJ)
    | 13, _ =>
      obtain ⟨r, B', S', v', ai', al', en', ex, em, hr, hJ, cx, cm⟩ := INV_step hI (s_sheet (c := c) hC h (x := f (i + 1)) (y := f (i + 2)) (z := f (i + 3)))
      obtain ⟨r, rfl⟩ := hr.i rfl
      show WP E (c + 13) 298 33 _ [.int 13] _ _
      rw [r298_33_13]
      exact w_13 hs h6 ex cx em cm (K B' S' v' ai' al' en' hJ)
    | 14, _ =>
      obtain ⟨r, B', S', v', ai', al', en', ex, em, hr, hJ, cx, cm⟩ := INV_step hI (s_explain (c := c) hC h (x := f (i + 1)) (y := f (i + 2)) (z := f (i + 3)))
      obtain ⟨r, rfl⟩ := hr.i rfl
      show WP E (c + 13) 298 33 _ [.int 14] _ _
      rw [r298_33_14]
      exact w_14 hs h6 ex cx em cm (K B' S' v' ai' al' en' hJ)
    | 15, _ =>
      obtain ⟨r, B', S', v', ai', al', en', ex, em, hr, hJ, cx, cm⟩ := INV_step hI (s_because (c := c) hC h (w := f (i + 1)))
      obtain ⟨r, rfl⟩ := hr.i rfl
      show WP E (c + 13) 298 33 _ [.int 15] _ _
      rw [r298_33_15]
      exact w_15 hs h6 ex cx em cm (K B' S' v' ai' al' en' hJ)
    | 16, _ =>
      obtain ⟨r, B', S', v', ai', al', en', ex, em, hr, hJ, cx, cm⟩ := INV_step hI (s_finer (c := c) hC h (x := f (i + 1)) (y := f (i + 2)) (z := f (i + 3)) (u := f (i + 4)))
      obtain ⟨r, rfl⟩ := hr.i rfl
      show WP E (c + 13) 298 33 _ [.int 16] _ _
      rw [r298_33_16]
      exact w_16 hs h6 ex cx em cm (K B' S' v' ai' al' en' hJ)
    | 17, _ =>
      obtain ⟨r, B', S', v', ai', al', en', ex, em, hr, hJ, cx, cm⟩ := INV_step hI (s_feed (c := c) hC h (x1 := f (i + 1)) (x2 := f (i + 2)) (x3 := f (i + 3)) (x4 := f (i + 4)) (x5 := f (i + 5)))
      obtain ⟨r, rfl⟩ := hr.i rfl
      show WP E (c + 13) 298 33 _ [.int 17] _ _
      rw [r298_33_17]
      exact w_17 hs h6 ex cx em cm (K B' S' v' ai' al' en' hJ)
    | 18, _ =>
      obtain ⟨r, B', S', v', ai', al', en', ex, em, hr, hJ, cx, cm⟩ := INV_step hI (s_cards (c := c) hC h (x := f (i + 1)) hE)
      obtain ⟨r, rfl⟩ := hr.i rfl
      show WP E (c + 13) 298 33 _ [.int 18] _ _
      rw [r298_33_18]
      exact w_18 hs h6 ex cx em cm (K B' S' v' ai' al' en' hJ)
    | 19, _ =>
      obtain ⟨r, B', S', v', ai', al', en', ex, em, hr, hJ, cx, cm⟩ := INV_step hI (s_fault (c := c) hC h (w := f (i + 1)))
      obtain ⟨r, rfl⟩ := hr.i rfl
      show WP E (c + 13) 298 33 _ [.int 19] _ _
      rw [r298_33_19]
      exact w_19 hs h6 ex cx em cm (K B' S' v' ai' al' en' hJ)
    | 20, _ =>
      obtain ⟨r, B', S', v', ai', al', en', ex, em, hr, hJ, cx, cm⟩ := INV_step hI (s_run (c := c) hC h)
      obtain ⟨r, rfl⟩ := hr.i rfl
      show WP E (c + 13) 298 33 _ [.int 20] _ _
      rw [r298_33_20]
      exact w_20 hs h6 ex cx em cm (K B' S' v' ai' al' en' hJ)
    | 21, _ =>
      obtain ⟨r, B', S', v', ai', al', en', ex, em, hr, hJ, cx, cm⟩ := INV_step hI (s_ran (c := c) hC h (w := f (i + 1)))
      obtain ⟨r, rfl⟩ := hr.i rfl
      show WP E (c + 13) 298 33 _ [.int 21] _ _
      rw [r298_33_21]
      exact w_21 hs h6 ex cx em cm (K B' S' v' ai' al' en' hJ)
    | 22, _ =>
      obtain ⟨r, B', S', v', ai', al', en', ex, em, hr, hJ, cx, cm⟩ := INV_step hI (s_printed (c := c) hC h (w := f (i + 1)))
      obtain ⟨r, rfl⟩ := hr.l rfl
      show WP E (c + 13) 298 33 _ [.int 22] _ _
      rw [r298_33_22]
      exact w_22 hs h6 ex cx em cm (K B' S' v' ai' al' en' hJ)
    | 23, _ =>
      obtain ⟨r, B', S', v', ai', al', en', ex, em, hr, hJ, cx, cm⟩ := INV_step hI (s_place (c := c) hC h (w := f (i + 1)))
      obtain ⟨r, rfl⟩ := hr.l rfl
      show WP E (c + 13) 298 33 _ [.int 23] _ _
      rw [r298_33_23]
      exact w_23 hs h6 ex cx em cm (K B' S' v' ai' al' en' hJ)
    | 24, _ =>
      obtain ⟨r, B', S', v', ai', al', en', ex, em, hr, hJ, cx, cm⟩ := INV_step hI (s_turns (c := c) hC h (x := lgS (f (i + 1)) (f (i + 2))))
      obtain ⟨r, rfl⟩ := hr.i rfl
      show WP E (c + 13) 298 33 _ [.int 24] _ _
      rw [r298_33_24]
      exact w_24 hs h6 ex cx em cm (K B' S' v' ai' al' en' hJ)
    | 25, _ =>
      obtain ⟨r, B', S', v', ai', al', en', ex, em, hr, hJ, cx, cm⟩ := INV_step hI (s_turnsAt (c := c) hC h (x := lgS (f (i + 1)) (f (i + 2))) (k := f (i + 3)))
      obtain ⟨r, rfl⟩ := hr.i rfl
      show WP E (c + 13) 298 33 _ [.int 25] _ _
      rw [r298_33_25]
      exact w_25 hs h6 ex cx em cm (K B' S' v' ai' al' en' hJ)
    | 26, _ =>
      obtain ⟨r, B', S', v', ai', al', en', ex, em, hr, hJ, cx, cm⟩ := INV_step hI (s_errata (c := c) hC h (x := f (i + 1)) (y := f (i + 2)) (z := f (i + 3)) (u := f (i + 4)) hE2)
      obtain ⟨r, rfl⟩ := hr.i rfl
      show WP E (c + 13) 298 33 _ [.int 26] _ _
      rw [r298_33_26]
      exact w_26 hs h6 ex cx em cm (K B' S' v' ai' al' en' hJ)
    | 27, _ =>
      obtain ⟨r, B', S', v', ai', al', en', ex, em, hr, hJ, cx, cm⟩ := INV_step hI (s_right (c := c) hC h (x := f (i + 1)) (w := f (i + 2)))
      obtain ⟨r, rfl⟩ := hr.i rfl
      show WP E (c + 13) 298 33 _ [.int 27] _ _
      rw [r298_33_27]
      exact w_27 hs h6 ex cx em cm (K B' S' v' ai' al' en' hJ)
    | 28, _ =>
      obtain ⟨r, B', S', v', ai', al', en', ex, em, hr, hJ, cx, cm⟩ := INV_step hI (s_cast (c := c) hC h (x := f (i + 1)) (y := f (i + 2)) (z := f (i + 3)))
      obtain ⟨r, rfl⟩ := hr.i rfl
      show WP E (c + 13) 298 33 _ [.int 28] _ _
      rw [r298_33_28]
      exact w_28 hs h6 ex cx em cm (K B' S' v' ai' al' en' hJ)
    | 29, _ =>
      obtain ⟨r, B', S', v', ai', al', en', ex, em, hr, hJ, cx, cm⟩ := INV_step hI (s_print (c := c) hC h (x := f (i + 1)) (y := f (i + 2)))
      obtain ⟨r, rfl⟩ := hr.i rfl
      show WP E (c + 13) 298 33 _ [.int 29] _ _
      rw [r298_33_29]
      exact w_29 hs h6 ex cx em cm (K B' S' v' ai' al' en' hJ)
    | 30, _ =>
      obtain ⟨r, B', S', v', ai', al', en', ex, em, hr, hJ, cx, cm⟩ := INV_step hI (s_tell (c := c) hC h (x := f (i + 1)) (y := f (i + 2)) (z := f (i + 3)))
      obtain ⟨r, rfl⟩ := hr.i rfl
      show WP E (c + 13) 298 33 _ [.int 30] _ _
      rw [r298_33_30]
      exact w_30 hs h6 ex cx em cm (K B' S' v' ai' al' en' hJ)
    | 31, _ =>
      obtain ⟨r, B', S', v', ai', al', en', ex, em, hr, hJ, cx, cm⟩ := INV_step hI (s_says (c := c) hC h (x := f (i + 1)) (y := f (i + 2)))
      obtain ⟨r, rfl⟩ := hr.i rfl
      show WP E (c + 13) 298 33 _ [.int 31] _ _
      rw [r298_33_31]
      exact w_31 hs h6 ex cx em cm (K B' S' v' ai' al' en' hJ)
    | 32, _ =>
      obtain ⟨r, B', S', v', ai', al', en', ex, em, hr, hJ, cx, cm⟩ := INV_step hI (s_wrong (c := c) hC h (x := f (i + 1)) (y := f (i + 2)))
      obtain ⟨r, rfl⟩ := hr.i rfl
      show WP E (c + 13) 298 33 _ [.int 32] _ _
      rw [r298_33_32]
      exact w_32 hs h6 ex cx em cm (K B' S' v' ai' al' en' hJ)
    | 33, _ =>
      obtain ⟨r, B', S', v', ai', al', en', ex, em, hr, hJ, cx, cm⟩ := INV_step hI (s_bad (c := c) hC h (x := f (i + 1)))
      obtain ⟨r, rfl⟩ := hr.i rfl
      show WP E (c + 13) 298 33 _ [.int 33] _ _
      rw [r298_33_33]
      exact w_33 hs h6 ex cx em cm (K B' S' v' ai' al' en' hJ)
    | 34, _ =>
      obtain ⟨r, B', S', v', ai', al', en', ex, em, hr, hJ, cx, cm⟩ := INV_step hI (s_job (c := c) hC h (x := f (i + 1)) (y := f (i + 2)) (z := f (i + 3)))
      obtain ⟨r, rfl⟩ := hr.i rfl
      show WP E (c + 13) 298 33 _ [.int 34] _ _
      rw [r298_33_34]
      exact w_34 hs h6 ex cx em cm (K B' S' v' ai' al' en' hJ)
    | 35, _ =>
      obtain ⟨r, B', S', v', ai', al', en', ex, em, hr, hJ, cx, cm⟩ := INV_step hI (s_part (c := c) hC h)
      obtain ⟨r, rfl⟩ := hr.i rfl
      show WP E (c + 13) 298 33 _ [.int 35] _ _
      rw [r298_33_35]
      exact w_35 hs h6 ex cx em cm (K B' S' v' ai' al' en' hJ)
    | 36, _ =>
      obtain ⟨r, B', S', v', ai', al', en', ex, em, hr, hJ, cx, cm⟩ := INV_step hI (s_partOf (c := c) hC h (x := f (i + 1)))
      obtain ⟨r, rfl⟩ := hr.i rfl
      show WP E (c + 13) 298 33 _ [.int 36] _ _
      rw [r298_33_36]
      exact w_36 hs h6 ex cx em cm (K B' S' v' ai' al' en' hJ)
    | k + 37, h => omega
end LOOP

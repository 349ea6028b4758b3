/-! The model's cards: its tokens -/
theorem vu_c {v : Nat → Value} {k j : Nat} {a b x : Value} (h : ¬ j = k) : vu (vu (vu v k a) j b) k x = vu (vu v k x) j b := by
  funext q
  unfold vu
  by_cases h1 : q = k
  · subst h1
    have h' : ¬ q = j := fun z => h z.symm
    simp [h']
  · by_cases h2 : q = j
    · subst h2
      simp [h1]
    · simp [h1, h2]
noncomputable def srt (t : Nat) : Nat := if t = 5 then 4 else if t = 4 then 3 else t
/-- the model's reader after a reading -/
noncomputable def cdM (v : Nat → Value) (T : Nat → Int32) (n : Nat) (s : aPs) : Prop := v 30 = .int (nI n) ∧ v 33 = .int (nI s.2.1) ∧ (¬ s.2.1 = 0 → v 34 = .int s.2.2) ∧ v 35 = .int (nI (srt (nxT T n s.1))) ∧ v 36 = .int (nI (nxS T n s.1)) ∧ v 37 = .int (nI (nxE T n s.1)) ∧ (nxT T n s.1 = 1 → v 39 = .long (wdV T n s.1)) ∧ (nxT T n s.1 = 2 → v 40 = .long (nxV T n s.1)) ∧ (nxT T n s.1 = 3 → v 40 = .long 59) ∧ (nxT T n s.1 = 4 → v 40 = .long 45)
noncomputable def frR (v v' : Nat → Value) : Prop := ∀ k, ¬ (33 ≤ k ∧ k ≤ 40) → v' k = v k
theorem srt_le {t : Nat} (h : t ≤ 5) : srt t ≤ 4 := by
  unfold srt
  repeat' split
  all_goals omega
theorem vaL_sn {T : Nat → Int32} : ∀ z i a, vaL T (z + 1) i a = vaL T z i a * 10 + lN (bt T (i + z)) - 48
  | 0, i, a => rfl
  | z + 1, i, a => by
    have ih := vaL_sn (T := T) z (i + 1) (a * 10 + lN (bt T i) - 48)
    rw [show i + 1 + z = i + (z + 1) by omega] at ih
    rw [vaL, ih]
    rfl
theorem wc_sn {T : Nat → Int32} : ∀ z i a, wcF (sgL T (z + 1) i) a = wcF (sgL T z i) a * 32 + (bt T (i + z) - 96)
  | 0, i, a => rfl
  | z + 1, i, a => by
    have ih := wc_sn (T := T) z (i + 1) (a * 32 + (bt T i - 96))
    rw [show i + 1 + z = i + (z + 1) by omega] at ih
    rw [sgL, wcF, ih]
    rfl
section MTK
variable {E : aEnv} {c m : Nat} {ah : aHp} {ma : Nat → Nat} {v : Nat → Value} {ai : Nat → Nat → Int32} {al : Nat → Nat → Int64} {T : Nat → Int32} {n : Nat}
noncomputable def lkN (T : Nat → Int32) (n p : Nat) : Nat := if p < n then bt T p else 0
theorem lkN_lt {p : Nat} : lkN T n p < 256 := by
  have := bt_lt (T := T) (p := p)
  unfold lkN
  split <;> omega
theorem m_look (h : MO E ah m ma) (hT : ai 28 = T) (hn : n ≤ 500) (h30 : v 30 = .int (nI n)) {p : Nat} (hp : p ≤ 500) : EV E c 236 [.ref m, .int (nI p)] (mh E ah m ma v ai al) (some (.int (nI (lkN T n p)))) (mh E ah m ma v ai al) := by
  refine e236 ?_
  have b1 := bt_i (T := T) (p := p)
  unfold lkN
  by_cases y : p < n
  · simp (disch := first | assumption | omega | decide | (simp only [List.length_cons, List.length_nil, Nat.reduceAdd, Nat.reduceLT]; done) | fail) only [r236_0, r236_1, r236_2, r236_5, r236_8, r236_9, r236_12, r236_13, r236_14, r236_17, r236_18, r236_21, r236_22, mh_o h, gm_30, gm_28, h30, hm_28 h, hT, gB, b1, y, WPo_some, List.getElem?_cons_succ, List.getElem?_cons_zero, kil_n, kil_i, kil_a, kil_u, kil_l, Option.toList_some, Option.toList_none, List.cons_append, List.nil_append, List.set_cons_succ, List.set_cons_zero, addm1, Nat.reduceAdd, List.length_cons, List.length_nil, Nat.reduceLT, nI_clamp, nI_toInt, nI_leL, nI_Lle, nI_ltL, nI_Llt, nI_eqL, nI_Leq, nI_leE, nI_ltE, nI_eqE, nI_eqM, nI_add, nI_addL, nI_Ladd, nI_mulL, nI_Lmul, pk_mul, pk_sub, nI_subL, nI_Lsub, i2l_nI, Int.toNat_natCast, Nat.not_lt_zero, Nat.zero_le, ifT, ifF, not_true_eq_false, not_false_eq_true, if_true, if_false, or_self, and_self, true_and, and_true, or_true, true_or, false_or, or_false, false_and, and_false]
  · simp (disch := first | assumption | omega | decide | (simp only [List.length_cons, List.length_nil, Nat.reduceAdd, Nat.reduceLT]; done) | fail) only [r236_0, r236_1, r236_2, r236_5, r236_8, r236_9, r236_12, r236_13, r236_14, r236_17, r236_18, r236_21, r236_22, mh_o h, gm_30, h30, y, WPo_some, List.getElem?_cons_succ, List.getElem?_cons_zero, kil_n, kil_i, kil_a, kil_u, kil_l, Option.toList_some, Option.toList_none, List.cons_append, List.nil_append, List.set_cons_succ, List.set_cons_zero, addm1, Nat.reduceAdd, List.length_cons, List.length_nil, Nat.reduceLT, nI_clamp, nI_toInt, nI_leL, nI_Lle, nI_ltL, nI_Llt, nI_eqL, nI_Leq, nI_leE, nI_ltE, nI_eqE, nI_eqM, nI_add, nI_addL, nI_Ladd, nI_mulL, nI_Lmul, pk_mul, pk_sub, nI_subL, nI_Lsub, i2l_nI, Int.toNat_natCast, Nat.not_lt_zero, Nat.zero_le, ifT, ifF, not_true_eq_false, not_false_eq_true, if_true, if_false, or_self, and_self, true_and, and_true, or_true, true_or, false_or, or_false, false_and, and_false]
    exact rfl
theorem m_isLetter {x : Nat} (hx : x < 256) : EV E c 237 [.int (nI x)] ah (some (.int (b2i (clB x = 1)))) ah := by
  refine e237 ?_
  unfold b2i clB
  by_cases h1 : 97 ≤ x ∧ x ≤ 122
  · simp (disch := first | assumption | omega | decide | (simp only [List.length_cons, List.length_nil, Nat.reduceAdd, Nat.reduceLT]; done) | fail) only [r237_0, r237_1, r237_3, r237_6, r237_7, r237_9, r237_12, r237_13, r237_16, r237_17 (x := 0) (Or.inl rfl), r237_17 (x := 1) (Or.inr rfl), r237_17 (b2i_or _), h1, show ¬ x < 97 by omega, show ¬ 122 < x by omega, WPo_some, List.getElem?_cons_succ, List.getElem?_cons_zero, kil_n, kil_i, kil_a, kil_u, kil_l, Option.toList_some, Option.toList_none, List.cons_append, List.nil_append, List.set_cons_succ, List.set_cons_zero, addm1, Nat.reduceAdd, List.length_cons, List.length_nil, Nat.reduceLT, nI_clamp, nI_toInt, nI_leL, nI_Lle, nI_ltL, nI_Llt, nI_eqL, nI_Leq, nI_leE, nI_ltE, nI_eqE, nI_eqM, nI_add, nI_addL, nI_Ladd, nI_mulL, nI_Lmul, pk_mul, pk_sub, nI_subL, nI_Lsub, i2l_nI, Int.toNat_natCast, Nat.not_lt_zero, Nat.zero_le, ifT, ifF, not_true_eq_false, not_false_eq_true, if_true, if_false, or_self, and_self, true_and, and_true, or_true, true_or, false_or, or_false, false_and, and_false]
  · have h2 : ¬ (if 97 ≤ x ∧ x ≤ 122 then 1 else if 48 ≤ x ∧ x ≤ 57 then 2 else if x = 59 then 3 else if x = 45 then 4 else 5) = 1 := by
      rw [if_neg h1]
      repeat' split
      all_goals omega
    rw [if_neg h2]
    by_cases h3 : x < 97
    · simp (disch := first | assumption | omega | decide | (simp only [List.length_cons, List.length_nil, Nat.reduceAdd, Nat.reduceLT]; done) | fail) only [r237_0, r237_1, r237_3, r237_6, r237_7, r237_9, r237_12, r237_13, r237_16, r237_17 (x := 0) (Or.inl rfl), r237_17 (x := 1) (Or.inr rfl), r237_17 (b2i_or _), h3, WPo_some, List.getElem?_cons_succ, List.getElem?_cons_zero, kil_n, kil_i, kil_a, kil_u, kil_l, Option.toList_some, Option.toList_none, List.cons_append, List.nil_append, List.set_cons_succ, List.set_cons_zero, addm1, Nat.reduceAdd, List.length_cons, List.length_nil, Nat.reduceLT, nI_clamp, nI_toInt, nI_leL, nI_Lle, nI_ltL, nI_Llt, nI_eqL, nI_Leq, nI_leE, nI_ltE, nI_eqE, nI_eqM, nI_add, nI_addL, nI_Ladd, nI_mulL, nI_Lmul, pk_mul, pk_sub, nI_subL, nI_Lsub, i2l_nI, Int.toNat_natCast, Nat.not_lt_zero, Nat.zero_le, ifT, ifF, not_true_eq_false, not_false_eq_true, if_true, if_false, or_self, and_self, true_and, and_true, or_true, true_or, false_or, or_false, false_and, and_false]
    · simp (disch := first | assumption | omega | decide | (simp only [List.length_cons, List.length_nil, Nat.reduceAdd, Nat.reduceLT]; done) | fail) only [r237_0, r237_1, r237_3, r237_6, r237_7, r237_9, r237_12, r237_13, r237_16, r237_17 (x := 0) (Or.inl rfl), r237_17 (x := 1) (Or.inr rfl), r237_17 (b2i_or _), h3, show 122 < x by omega, WPo_some, List.getElem?_cons_succ, List.getElem?_cons_zero, kil_n, kil_i, kil_a, kil_u, kil_l, Option.toList_some, Option.toList_none, List.cons_append, List.nil_append, List.set_cons_succ, List.set_cons_zero, addm1, Nat.reduceAdd, List.length_cons, List.length_nil, Nat.reduceLT, nI_clamp, nI_toInt, nI_leL, nI_Lle, nI_ltL, nI_Llt, nI_eqL, nI_Leq, nI_leE, nI_ltE, nI_eqE, nI_eqM, nI_add, nI_addL, nI_Ladd, nI_mulL, nI_Lmul, pk_mul, pk_sub, nI_subL, nI_Lsub, i2l_nI, Int.toNat_natCast, Nat.not_lt_zero, Nat.zero_le, ifT, ifF, not_true_eq_false, not_false_eq_true, if_true, if_false, or_self, and_self, true_and, and_true, or_true, true_or, false_or, or_false, false_and, and_false]
theorem m_isDigit {x : Nat} (hx : x < 256) : EV E c 238 [.int (nI x)] ah (some (.int (b2i (clB x = 2)))) ah := by
  refine e238 ?_
  unfold b2i clB
  by_cases h1 : 48 ≤ x ∧ x ≤ 57
  · simp (disch := first | assumption | omega | decide | (simp only [List.length_cons, List.length_nil, Nat.reduceAdd, Nat.reduceLT]; done) | fail) only [r238_0, r238_1, r238_3, r238_6, r238_7, r238_9, r238_12, r238_13, r238_16, r238_17 (x := 0) (Or.inl rfl), r238_17 (x := 1) (Or.inr rfl), r238_17 (b2i_or _), h1, show ¬ x < 48 by omega, show ¬ 57 < x by omega, show ¬ 97 ≤ x by omega, WPo_some, List.getElem?_cons_succ, List.getElem?_cons_zero, kil_n, kil_i, kil_a, kil_u, kil_l, Option.toList_some, Option.toList_none, List.cons_append, List.nil_append, List.set_cons_succ, List.set_cons_zero, addm1, Nat.reduceAdd, List.length_cons, List.length_nil, Nat.reduceLT, nI_clamp, nI_toInt, nI_leL, nI_Lle, nI_ltL, nI_Llt, nI_eqL, nI_Leq, nI_leE, nI_ltE, nI_eqE, nI_eqM, nI_add, nI_addL, nI_Ladd, nI_mulL, nI_Lmul, pk_mul, pk_sub, nI_subL, nI_Lsub, i2l_nI, Int.toNat_natCast, Nat.not_lt_zero, Nat.zero_le, ifT, ifF, not_true_eq_false, not_false_eq_true, if_true, if_false, or_self, and_self, true_and, and_true, or_true, true_or, false_or, or_false, false_and, and_false]
  · have h2 : ¬ (if 97 ≤ x ∧ x ≤ 122 then 1 else if 48 ≤ x ∧ x ≤ 57 then 2 else if x = 59 then 3 else if x = 45 then 4 else 5) = 2 := by
      rw [if_neg h1]
      repeat' split
      all_goals omega
    rw [if_neg h2]
    by_cases h3 : x < 48
    · simp (disch := first | assumption | omega | decide | (simp only [List.length_cons, List.length_nil, Nat.reduceAdd, Nat.reduceLT]; done) | fail) only [r238_0, r238_1, r238_3, r238_6, r238_7, r238_9, r238_12, r238_13, r238_16, r238_17 (x := 0) (Or.inl rfl), r238_17 (x := 1) (Or.inr rfl), r238_17 (b2i_or _), h3, WPo_some, List.getElem?_cons_succ, List.getElem?_cons_zero, kil_n, kil_i, kil_a, kil_u, kil_l, Option.toList_some, Option.toList_none, List.cons_append, List.nil_append, List.set_cons_succ, List.set_cons_zero, addm1, Nat.reduceAdd, List.length_cons, List.length_nil, Nat.reduceLT, nI_clamp, nI_toInt, nI_leL, nI_Lle, nI_ltL, nI_Llt, nI_eqL, nI_Leq, nI_leE, nI_ltE, nI_eqE, nI_eqM, nI_add, nI_addL, nI_Ladd, nI_mulL, nI_Lmul, pk_mul, pk_sub, nI_subL, nI_Lsub, i2l_nI, Int.toNat_natCast, Nat.not_lt_zero, Nat.zero_le, ifT, ifF, not_true_eq_false, not_false_eq_true, if_true, if_false, or_self, and_self, true_and, and_true, or_true, true_or, false_or, or_false, false_and, and_false]
    · simp (disch := first | assumption | omega | decide | (simp only [List.length_cons, List.length_nil, Nat.reduceAdd, Nat.reduceLT]; done) | fail) only [r238_0, r238_1, r238_3, r238_6, r238_7, r238_9, r238_12, r238_13, r238_16, r238_17 (x := 0) (Or.inl rfl), r238_17 (x := 1) (Or.inr rfl), r238_17 (b2i_or _), h3, show 57 < x by omega, WPo_some, List.getElem?_cons_succ, List.getElem?_cons_zero, kil_n, kil_i, kil_a, kil_u, kil_l, Option.toList_some, Option.toList_none, List.cons_append, List.nil_append, List.set_cons_succ, List.set_cons_zero, addm1, Nat.reduceAdd, List.length_cons, List.length_nil, Nat.reduceLT, nI_clamp, nI_toInt, nI_leL, nI_Lle, nI_ltL, nI_Llt, nI_eqL, nI_Leq, nI_leE, nI_ltE, nI_eqE, nI_eqM, nI_add, nI_addL, nI_Ladd, nI_mulL, nI_Lmul, pk_mul, pk_sub, nI_subL, nI_Lsub, i2l_nI, Int.toNat_natCast, Nat.not_lt_zero, Nat.zero_le, ifT, ifF, not_true_eq_false, not_false_eq_true, if_true, if_false, or_self, and_self, true_and, and_true, or_true, true_or, false_or, or_false, false_and, and_false]
theorem l_mn1 (h : MO E ah m ma) (hT : ai 28 = T) (hn : n ≤ 500) (h30 : v 30 = .int (nI n)) {l1 : Option Value} {Q : Option Value → aHp → Prop} : ∀ z p, p + z = n → WP E (c + 1) 239 58 [some (.ref m), l1] [] (mh E ah m ma (vu v 36 (.int (nI (skF T z p)))) ai al) Q → WP E (c + 1) 239 8 [some (.ref m), l1] [] (mh E ah m ma (vu v 36 (.int (nI p))) ai al) Q
  | 0, p, hz, K => by
    rw [show p = n by omega] at K ⊢
    rw [skF] at K
    rw [r239_8]
    simp (disch := first | assumption | omega | decide | (simp only [List.length_cons, List.length_nil, Nat.reduceAdd, Nat.reduceLT]; done) | fail) only [r239_9, r239_12, r239_13, r239_16, mh_o h, gm_36, gm_30, vu_at, vu_ne, h30, WPo_some, List.getElem?_cons_succ, List.getElem?_cons_zero, kil_n, kil_i, kil_a, kil_u, kil_l, Option.toList_some, Option.toList_none, List.cons_append, List.nil_append, List.set_cons_succ, List.set_cons_zero, addm1, Nat.reduceAdd, List.length_cons, List.length_nil, Nat.reduceLT, nI_clamp, nI_toInt, nI_leL, nI_Lle, nI_ltL, nI_Llt, nI_eqL, nI_Leq, nI_leE, nI_ltE, nI_eqE, nI_eqM, nI_add, nI_addL, nI_Ladd, nI_mulL, nI_Lmul, pk_mul, pk_sub, nI_subL, nI_Lsub, i2l_nI, Int.toNat_natCast, Nat.not_lt_zero, Nat.zero_le, ifT, ifF, not_true_eq_false, not_false_eq_true, if_true, if_false, or_self, and_self, true_and, and_true, or_true, true_or, false_or, or_false, false_and, and_false]
    exact K
  | z + 1, p, hz, K => by
    have k := m_look (E := E) (c := c) (v := vu v 36 (.int (nI p))) (al := al) h hT hn (by rw [vu_ne (by decide)]; exact h30) (show p ≤ 500 by omega)
    rw [show lkN T n p = bt T p from if_pos (by omega)] at k
    have b1 := bt_lt (T := T) (p := p)
    rw [r239_8]
    by_cases y : bt T p = 32 ∨ bt T p = 10
    · rw [skF, if_pos y] at K
      have ih := l_mn1 h hT hn h30 (l1 := l1) (Q := Q) z (p + 1) (by omega) K
      by_cases y1 : bt T p = 10
      · simp (disch := first | assumption | omega | decide | (simp only [List.length_cons, List.length_nil, Nat.reduceAdd, Nat.reduceLT]; done) | fail) only [r239_9, r239_12, r239_13, r239_16, r239_19, r239_20, r239_21, r239_27, r239_29, r239_32, r239_33, r239_34, r239_40, r239_42, r239_45, r239_46, r239_46i, r239_47, r239_50, r239_51, r239_52, r239_55, mh_o h, mh_put h, gm_36, gm_30, pm_36, vu_at, vu_ne, vu_vu, h30, q239_24 k h.ci, q239_37 k h.ci, eq_true y1, WPo_some, List.getElem?_cons_succ, List.getElem?_cons_zero, kil_n, kil_i, kil_a, kil_u, kil_l, Option.toList_some, Option.toList_none, List.cons_append, List.nil_append, List.set_cons_succ, List.set_cons_zero, addm1, Nat.reduceAdd, List.length_cons, List.length_nil, Nat.reduceLT, nI_clamp, nI_toInt, nI_leL, nI_Lle, nI_ltL, nI_Llt, nI_eqL, nI_Leq, nI_leE, nI_ltE, nI_eqE, nI_eqM, nI_add, nI_addL, nI_Ladd, nI_mulL, nI_Lmul, pk_mul, pk_sub, nI_subL, nI_Lsub, i2l_nI, Int.toNat_natCast, Nat.not_lt_zero, Nat.zero_le, ifT, ifF, not_true_eq_false, not_false_eq_true, if_true, if_false, or_self, and_self, true_and, and_true, or_true, true_or, false_or, or_false, false_and, and_false]
        exact ih
      · have y2 : bt T p = 32 := by omega
        simp (disch := first | assumption | omega | decide | (simp only [List.length_cons, List.length_nil, Nat.reduceAdd, Nat.reduceLT]; done) | fail) only [r239_9, r239_12, r239_13, r239_16, r239_19, r239_20, r239_21, r239_27, r239_29, r239_32, r239_33, r239_34, r239_40, r239_42, r239_45, r239_46, r239_46i, r239_47, r239_50, r239_51, r239_52, r239_55, mh_o h, mh_put h, gm_36, gm_30, pm_36, vu_at, vu_ne, vu_vu, h30, q239_24 k h.ci, q239_37 k h.ci, y1, eq_true y2, WPo_some, List.getElem?_cons_succ, List.getElem?_cons_zero, kil_n, kil_i, kil_a, kil_u, kil_l, Option.toList_some, Option.toList_none, List.cons_append, List.nil_append, List.set_cons_succ, List.set_cons_zero, addm1, Nat.reduceAdd, List.length_cons, List.length_nil, Nat.reduceLT, nI_clamp, nI_toInt, nI_leL, nI_Lle, nI_ltL, nI_Llt, nI_eqL, nI_Leq, nI_leE, nI_ltE, nI_eqE, nI_eqM, nI_add, nI_addL, nI_Ladd, nI_mulL, nI_Lmul, pk_mul, pk_sub, nI_subL, nI_Lsub, i2l_nI, Int.toNat_natCast, Nat.not_lt_zero, Nat.zero_le, ifT, ifF, not_true_eq_false, not_false_eq_true, if_true, if_false, or_self, and_self, true_and, and_true, or_true, true_or, false_or, or_false, false_and, and_false]
        exact ih
    · rw [skF, if_neg y] at K
      simp (disch := first | assumption | omega | decide | (simp only [List.length_cons, List.length_nil, Nat.reduceAdd, Nat.reduceLT]; done) | fail) only [r239_9, r239_12, r239_13, r239_16, r239_19, r239_20, r239_21, r239_27, r239_29, r239_32, r239_33, r239_34, r239_40, r239_42, mh_o h, gm_36, gm_30, vu_at, vu_ne, h30, q239_24 k h.ci, q239_37 k h.ci, show ¬ bt T p = 32 by omega, show ¬ bt T p = 10 by omega, WPo_some, List.getElem?_cons_succ, List.getElem?_cons_zero, kil_n, kil_i, kil_a, kil_u, kil_l, Option.toList_some, Option.toList_none, List.cons_append, List.nil_append, List.set_cons_succ, List.set_cons_zero, addm1, Nat.reduceAdd, List.length_cons, List.length_nil, Nat.reduceLT, nI_clamp, nI_toInt, nI_leL, nI_Lle, nI_ltL, nI_Llt, nI_eqL, nI_Leq, nI_leE, nI_ltE, nI_eqE, nI_eqM, nI_add, nI_addL, nI_Ladd, nI_mulL, nI_Lmul, pk_mul, pk_sub, nI_subL, nI_Lsub, i2l_nI, Int.toNat_natCast, Nat.not_lt_zero, Nat.zero_le, ifT, ifF, not_true_eq_false, not_false_eq_true, if_true, if_false, or_self, and_self, true_and, and_true, or_true, true_or, false_or, or_false, false_and, and_false]
      exact K
theorem clB_0 : ¬ clB 0 = 1 ∧ ¬ clB 0 = 2 := by
  unfold clB
  exact ⟨by decide, by decide⟩
theorem l_mn2 (h : MO E ah m ma) (hT : ai 28 = T) (hn : n ≤ 500) {s : Nat} (h30 : v 30 = .int (nI n)) (h36 : v 36 = .int (nI s)) {l1 : Option Value} {Q : Option Value → aHp → Prop} : ∀ z l, s + l + z = n → (∀ j, s ≤ j → j < s + l → clB (bt T j) = 1) → WP E (c + 1) 239 182 [some (.ref m), l1] [] (mh E ah m ma (vu (vu v 37 (.int (nI (exF T 1 z (s + l))))) 39 (.long (if exF T 1 z (s + l) - s ≤ 12 then lN (wcF (sgL T (exF T 1 z (s + l) - s) s) 0) else -1))) ai al) Q → WP E (c + 1) 239 109 [some (.ref m), l1] [] (mh E ah m ma (vu (vu v 37 (.int (nI (s + l)))) 39 (.long (if l ≤ 12 then lN (wcF (sgL T l s) 0) else -1))) ai al) Q
  | 0, l, hz, hl, K => by
    have k := m_look (E := E) (c := c) (v := vu (vu v 37 (.int (nI (s + l)))) 39 (.long (if l ≤ 12 then lN (wcF (sgL T l s) 0) else -1))) (al := al) h hT hn (by rw [vu_ne (by decide), vu_ne (by decide)]; exact h30) (show s + l ≤ 500 by omega)
    rw [show lkN T n (s + l) = 0 from if_neg (by omega)] at k
    have c0 := clB_0.1
    have kl := m_isLetter (E := E) (c := c) (ah := mh E ah m ma (vu (vu v 37 (.int (nI (s + l)))) 39 (.long (if l ≤ 12 then lN (wcF (sgL T l s) 0) else -1))) ai al) (x := 0) (by decide)
    rw [exF, show s + l - s = l by omega] at K
    rw [r239_109]
    simp (disch := first | assumption | omega | decide | (simp only [List.length_cons, List.length_nil, Nat.reduceAdd, Nat.reduceLT]; done) | fail) only [r239_110, r239_111, r239_120, mh_o h, gm_37, vu_at, vu_ne, q239_114 k h.ci, q239_117 kl, b2i_eq0, c0, WPo_some, List.getElem?_cons_succ, List.getElem?_cons_zero, kil_n, kil_i, kil_a, kil_u, kil_l, Option.toList_some, Option.toList_none, List.cons_append, List.nil_append, List.set_cons_succ, List.set_cons_zero, addm1, Nat.reduceAdd, List.length_cons, List.length_nil, Nat.reduceLT, nI_clamp, nI_toInt, nI_leL, nI_Lle, nI_ltL, nI_Llt, nI_eqL, nI_Leq, nI_leE, nI_ltE, nI_eqE, nI_eqM, nI_add, nI_addL, nI_Ladd, nI_mulL, nI_Lmul, pk_mul, pk_sub, nI_subL, nI_Lsub, i2l_nI, Int.toNat_natCast, Nat.not_lt_zero, Nat.zero_le, ifT, ifF, not_true_eq_false, not_false_eq_true, if_true, if_false, or_self, and_self, true_and, and_true, or_true, true_or, false_or, or_false, false_and, and_false]
    exact K
  | z + 1, l, hz, hl, K => by
    have k := m_look (E := E) (c := c) (v := vu (vu v 37 (.int (nI (s + l)))) 39 (.long (if l ≤ 12 then lN (wcF (sgL T l s) 0) else -1))) (al := al) h hT hn (by rw [vu_ne (by decide), vu_ne (by decide)]; exact h30) (show s + l ≤ 500 by omega)
    rw [show lkN T n (s + l) = bt T (s + l) from if_pos (by omega)] at k
    have b1 := bt_lt (T := T) (p := s + l)
    have kl := m_isLetter (E := E) (c := c) (ah := mh E ah m ma (vu (vu v 37 (.int (nI (s + l)))) 39 (.long (if l ≤ 12 then lN (wcF (sgL T l s) 0) else -1))) ai al) (x := bt T (s + l)) b1
    rw [r239_109]
    by_cases y : clB (bt T (s + l)) = 1
    · rw [exF, if_pos y] at K
      have hl' : ∀ j, s ≤ j → j < s + (l + 1) → clB (bt T j) = 1 := fun j h1 h2 => by
        by_cases w : j = s + l
        · rw [w]; exact y
        · exact hl j h1 (by omega)
      have ih := l_mn2 h hT hn h30 h36 (l1 := l1) (Q := Q) z (l + 1) (by omega) hl' K
      have y97 : 97 ≤ bt T (s + l) ∧ bt T (s + l) ≤ 122 := by
        have := sgL_lett (T := T) 1 (s + l) (fun j h1 h2 => by rw [show j = s + l by omega]; exact y) (bt T (s + l)) (by simp [sgL])
        exact this
      by_cases w : l < 12
      · have k2 := m_look (E := E) (c := c) (v := vu (vu v 37 (.int (nI (s + l)))) 39 (.long (lN (wcF (sgL T l s) 0)))) (al := al) h hT hn (by rw [vu_ne (by decide), vu_ne (by decide)]; exact h30) (show s + l ≤ 500 by omega)
        rw [show lkN T n (s + l) = bt T (s + l) from if_pos (by omega)] at k2
        rw [if_pos (show l ≤ 12 by omega)] at k kl ⊢
        rw [if_pos (show l + 1 ≤ 12 by omega), wc_sn] at ih
        have e1 : lN (wcF (sgL T l s) 0) * 32 + lN (bt T (s + l)) - 96 = lN (wcF (sgL T l s) 0 * 32 + (bt T (s + l) - 96)) := by
          rw [show (32 : Int64) = lN 32 from rfl, show (96 : Int64) = lN 96 from rfl, lN_iL, lN_iL, lN_iL, lN_iL, lN_iL, iL_mul, iL_add, iL_sub]
          congr 1
          omega
        have e2 : s + l - s = l := by omega
        simp (disch := first | assumption | omega | decide | (simp only [List.length_cons, List.length_nil, Nat.reduceAdd, Nat.reduceLT]; done) | fail) only [r239_110, r239_111, r239_120, r239_123, r239_124, r239_125, r239_128, r239_129, r239_132, r239_133, r239_135, r239_138, r239_139, r239_142, r239_145, r239_146, r239_147, r239_148, r239_154, r239_155, r239_156, r239_159, r239_160, r239_163, r239_166, r239_169, r239_170, r239_170i, r239_171, r239_174, r239_175, r239_176, r239_179, mh_o h, mh_put h, gm_37, gm_36, gm_39, pm_39, pm_37, vu_at, vu_ne, vu_vu, vu_c, h36, q239_114 k h.ci, q239_117 kl, q239_151 k2 h.ci, b2i_eq0, eq_true y, w, e1, e2, nI_l, WPo_some, List.getElem?_cons_succ, List.getElem?_cons_zero, kil_n, kil_i, kil_a, kil_u, kil_l, Option.toList_some, Option.toList_none, List.cons_append, List.nil_append, List.set_cons_succ, List.set_cons_zero, addm1, Nat.reduceAdd, List.length_cons, List.length_nil, Nat.reduceLT, nI_clamp, nI_toInt, nI_leL, nI_Lle, nI_ltL, nI_Llt, nI_eqL, nI_Leq, nI_leE, nI_ltE, nI_eqE, nI_eqM, nI_add, nI_addL, nI_Ladd, nI_mulL, nI_Lmul, pk_mul, pk_sub, nI_subL, nI_Lsub, i2l_nI, Int.toNat_natCast, Nat.not_lt_zero, Nat.zero_le, ifT, ifF, not_true_eq_false, not_false_eq_true, if_true, if_false, or_self, and_self, true_and, and_true, or_true, true_or, false_or, or_false, false_and, and_false]
        exact ih
      · rw [if_neg (show ¬ l + 1 ≤ 12 by omega)] at ih
        have e2 : s + l - s = l := by omega
        simp (disch := first | assumption | omega | decide | (simp only [List.length_cons, List.length_nil, Nat.reduceAdd, Nat.reduceLT]; done) | fail) only [r239_110, r239_111, r239_120, r239_123, r239_124, r239_125, r239_128, r239_129, r239_132, r239_133, r239_135, r239_138, r239_139, r239_142, r239_145, r239_146, r239_147, r239_148, r239_154, r239_155, r239_156, r239_159, r239_160, r239_163, r239_166, r239_169, r239_170, r239_170i, r239_171, r239_174, r239_175, r239_176, r239_179, mh_o h, mh_put h, gm_37, gm_36, gm_39, pm_39, pm_37, vu_at, vu_ne, vu_vu, vu_c, h36, q239_114 k h.ci, q239_117 kl, b2i_eq0, eq_true y, w, e2, nI_l, WPo_some, List.getElem?_cons_succ, List.getElem?_cons_zero, kil_n, kil_i, kil_a, kil_u, kil_l, Option.toList_some, Option.toList_none, List.cons_append, List.nil_append, List.set_cons_succ, List.set_cons_zero, addm1, Nat.reduceAdd, List.length_cons, List.length_nil, Nat.reduceLT, nI_clamp, nI_toInt, nI_leL, nI_Lle, nI_ltL, nI_Llt, nI_eqL, nI_Leq, nI_leE, nI_ltE, nI_eqE, nI_eqM, nI_add, nI_addL, nI_Ladd, nI_mulL, nI_Lmul, pk_mul, pk_sub, nI_subL, nI_Lsub, i2l_nI, Int.toNat_natCast, Nat.not_lt_zero, Nat.zero_le, ifT, ifF, not_true_eq_false, not_false_eq_true, if_true, if_false, or_self, and_self, true_and, and_true, or_true, true_or, false_or, or_false, false_and, and_false]
        exact ih
    · rw [exF, if_neg y, show s + l - s = l by omega] at K
      simp (disch := first | assumption | omega | decide | (simp only [List.length_cons, List.length_nil, Nat.reduceAdd, Nat.reduceLT]; done) | fail) only [r239_110, r239_111, r239_120, mh_o h, gm_37, vu_at, vu_ne, q239_114 k h.ci, q239_117 kl, b2i_eq0, y, WPo_some, List.getElem?_cons_succ, List.getElem?_cons_zero, kil_n, kil_i, kil_a, kil_u, kil_l, Option.toList_some, Option.toList_none, List.cons_append, List.nil_append, List.set_cons_succ, List.set_cons_zero, addm1, Nat.reduceAdd, List.length_cons, List.length_nil, Nat.reduceLT, nI_clamp, nI_toInt, nI_leL, nI_Lle, nI_ltL, nI_Llt, nI_eqL, nI_Leq, nI_leE, nI_ltE, nI_eqE, nI_eqM, nI_add, nI_addL, nI_Ladd, nI_mulL, nI_Lmul, pk_mul, pk_sub, nI_subL, nI_Lsub, i2l_nI, Int.toNat_natCast, Nat.not_lt_zero, Nat.zero_le, ifT, ifF, not_true_eq_false, not_false_eq_true, if_true, if_false, or_self, and_self, true_and, and_true, or_true, true_or, false_or, or_false, false_and, and_false]
      exact K
theorem l_mn3 (h : MO E ah m ma) (hT : ai 28 = T) (hn : n ≤ 500) {s : Nat} (h30 : v 30 = .int (nI n)) (h36 : v 36 = .int (nI s)) {l1 : Option Value} {Q : Option Value → aHp → Prop} : ∀ z l x, s + l + z = n → (l ≤ 12 → x = vaL T l s 0) → (∀ x', (exF T 2 z (s + l) - s ≤ 12 → x' = vaL T (exF T 2 z (s + l) - s) s 0) → WP E (c + 1) 239 277 [some (.ref m), l1] [] (mh E ah m ma (vu (vu v 37 (.int (nI (exF T 2 z (s + l))))) 40 (.long x')) ai al) Q) → WP E (c + 1) 239 210 [some (.ref m), l1] [] (mh E ah m ma (vu (vu v 37 (.int (nI (s + l)))) 40 (.long x)) ai al) Q
  | 0, l, x, hz, hx, K => by
    have k := m_look (E := E) (c := c) (v := vu (vu v 37 (.int (nI (s + l)))) 40 (.long x)) (al := al) h hT hn (by rw [vu_ne (by decide), vu_ne (by decide)]; exact h30) (show s + l ≤ 500 by omega)
    rw [show lkN T n (s + l) = 0 from if_neg (by omega)] at k
    have c0 := clB_0.2
    have kl := m_isDigit (E := E) (c := c) (ah := mh E ah m ma (vu (vu v 37 (.int (nI (s + l)))) 40 (.long x)) ai al) (x := 0) (by decide)
    rw [exF, show s + l - s = l by omega] at K
    have K := K x hx
    rw [r239_210]
    simp (disch := first | assumption | omega | decide | (simp only [List.length_cons, List.length_nil, Nat.reduceAdd, Nat.reduceLT]; done) | fail) only [r239_211, r239_212, r239_221, mh_o h, gm_37, vu_at, vu_ne, q239_215 k h.ci, q239_218 kl, b2i_eq0, c0, WPo_some, List.getElem?_cons_succ, List.getElem?_cons_zero, kil_n, kil_i, kil_a, kil_u, kil_l, Option.toList_some, Option.toList_none, List.cons_append, List.nil_append, List.set_cons_succ, List.set_cons_zero, addm1, Nat.reduceAdd, List.length_cons, List.length_nil, Nat.reduceLT, nI_clamp, nI_toInt, nI_leL, nI_Lle, nI_ltL, nI_Llt, nI_eqL, nI_Leq, nI_leE, nI_ltE, nI_eqE, nI_eqM, nI_add, nI_addL, nI_Ladd, nI_mulL, nI_Lmul, pk_mul, pk_sub, nI_subL, nI_Lsub, i2l_nI, Int.toNat_natCast, Nat.not_lt_zero, Nat.zero_le, ifT, ifF, not_true_eq_false, not_false_eq_true, if_true, if_false, or_self, and_self, true_and, and_true, or_true, true_or, false_or, or_false, false_and, and_false]
    exact K
  | z + 1, l, x, hz, hx, K => by
    have k := m_look (E := E) (c := c) (v := vu (vu v 37 (.int (nI (s + l)))) 40 (.long x)) (al := al) h hT hn (by rw [vu_ne (by decide), vu_ne (by decide)]; exact h30) (show s + l ≤ 500 by omega)
    rw [show lkN T n (s + l) = bt T (s + l) from if_pos (by omega)] at k
    have b1 := bt_lt (T := T) (p := s + l)
    have kl := m_isDigit (E := E) (c := c) (ah := mh E ah m ma (vu (vu v 37 (.int (nI (s + l)))) 40 (.long x)) ai al) (x := bt T (s + l)) b1
    rw [r239_210]
    by_cases y : clB (bt T (s + l)) = 2
    · rw [exF, if_pos y] at K
      have e2 : s + l - s = l := by omega
      by_cases w : l < 12
      · have ih := l_mn3 h hT hn h30 h36 (l1 := l1) (Q := Q) z (l + 1) (10 * x + lN (bt T (s + l)) - 48) (by omega) (fun _ => by
          rw [vaL_sn, ← hx (by omega), Int64.mul_comm]) K
        simp (disch := first | assumption | omega | decide | (simp only [List.length_cons, List.length_nil, Nat.reduceAdd, Nat.reduceLT]; done) | fail) only [r239_211, r239_212, r239_221, r239_224, r239_225, r239_228, r239_229, r239_232, r239_233, r239_235, r239_238, r239_239, r239_242, r239_243, r239_246, r239_247, r239_248, r239_249, r239_255, r239_256, r239_257, r239_260, r239_261, r239_264, r239_265, r239_265i, r239_266, r239_269, r239_270, r239_271, r239_274, mh_o h, mh_put h, gm_37, gm_36, gm_40, pm_40, pm_37, vu_at, vu_ne, vu_vu, vu_c, h36, q239_215 k h.ci, q239_218 kl, q239_252 k h.ci, b2i_eq0, eq_true y, w, e2, nI_l, WPo_some, List.getElem?_cons_succ, List.getElem?_cons_zero, kil_n, kil_i, kil_a, kil_u, kil_l, Option.toList_some, Option.toList_none, List.cons_append, List.nil_append, List.set_cons_succ, List.set_cons_zero, addm1, Nat.reduceAdd, List.length_cons, List.length_nil, Nat.reduceLT, nI_clamp, nI_toInt, nI_leL, nI_Lle, nI_ltL, nI_Llt, nI_eqL, nI_Leq, nI_leE, nI_ltE, nI_eqE, nI_eqM, nI_add, nI_addL, nI_Ladd, nI_mulL, nI_Lmul, pk_mul, pk_sub, nI_subL, nI_Lsub, i2l_nI, Int.toNat_natCast, Nat.not_lt_zero, Nat.zero_le, ifT, ifF, not_true_eq_false, not_false_eq_true, if_true, if_false, or_self, and_self, true_and, and_true, or_true, true_or, false_or, or_false, false_and, and_false]
        exact ih
      · have ih := l_mn3 h hT hn h30 h36 (l1 := l1) (Q := Q) z (l + 1) x (by omega) (fun z => absurd z (by omega)) K
        simp (disch := first | assumption | omega | decide | (simp only [List.length_cons, List.length_nil, Nat.reduceAdd, Nat.reduceLT]; done) | fail) only [r239_211, r239_212, r239_221, r239_224, r239_225, r239_228, r239_229, r239_232, r239_233, r239_235, r239_238, r239_239, r239_242, r239_243, r239_246, r239_247, r239_248, r239_249, r239_255, r239_256, r239_257, r239_260, r239_261, r239_264, r239_265, r239_265i, r239_266, r239_269, r239_270, r239_271, r239_274, mh_o h, mh_put h, gm_37, gm_36, gm_40, pm_40, pm_37, vu_at, vu_ne, vu_vu, vu_c, h36, q239_215 k h.ci, q239_218 kl, b2i_eq0, eq_true y, w, e2, nI_l, WPo_some, List.getElem?_cons_succ, List.getElem?_cons_zero, kil_n, kil_i, kil_a, kil_u, kil_l, Option.toList_some, Option.toList_none, List.cons_append, List.nil_append, List.set_cons_succ, List.set_cons_zero, addm1, Nat.reduceAdd, List.length_cons, List.length_nil, Nat.reduceLT, nI_clamp, nI_toInt, nI_leL, nI_Lle, nI_ltL, nI_Llt, nI_eqL, nI_Leq, nI_leE, nI_ltE, nI_eqE, nI_eqM, nI_add, nI_addL, nI_Ladd, nI_mulL, nI_Lmul, pk_mul, pk_sub, nI_subL, nI_Lsub, i2l_nI, Int.toNat_natCast, Nat.not_lt_zero, Nat.zero_le, ifT, ifF, not_true_eq_false, not_false_eq_true, if_true, if_false, or_self, and_self, true_and, and_true, or_true, true_or, false_or, or_false, false_and, and_false]
        exact ih
    · rw [exF, if_neg y, show s + l - s = l by omega] at K
      have K := K x hx
      simp (disch := first | assumption | omega | decide | (simp only [List.length_cons, List.length_nil, Nat.reduceAdd, Nat.reduceLT]; done) | fail) only [r239_211, r239_212, r239_221, mh_o h, gm_37, vu_at, vu_ne, q239_215 k h.ci, q239_218 kl, b2i_eq0, y, WPo_some, List.getElem?_cons_succ, List.getElem?_cons_zero, kil_n, kil_i, kil_a, kil_u, kil_l, Option.toList_some, Option.toList_none, List.cons_append, List.nil_append, List.set_cons_succ, List.set_cons_zero, addm1, Nat.reduceAdd, List.length_cons, List.length_nil, Nat.reduceLT, nI_clamp, nI_toInt, nI_leL, nI_Lle, nI_ltL, nI_Llt, nI_eqL, nI_Leq, nI_leE, nI_ltE, nI_eqE, nI_eqM, nI_add, nI_addL, nI_Ladd, nI_mulL, nI_Lmul, pk_mul, pk_sub, nI_subL, nI_Lsub, i2l_nI, Int.toNat_natCast, Nat.not_lt_zero, Nat.zero_le, ifT, ifF, not_true_eq_false, not_false_eq_true, if_true, if_false, or_self, and_self, true_and, and_true, or_true, true_or, false_or, or_false, false_and, and_false]
      exact K
end MTK

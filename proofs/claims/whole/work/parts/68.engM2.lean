/-! Engines of the model: put, number, mishap, mend -/
section ENM2
variable {E : aEnv} {c m : Nat} {ah : aHp} {ma : Nat → Nat} {v : Nat → Value} {ai : Nat → Nat → Int32} {al : Nat → Nat → Int64} {en : Nat} {ax wh : Nat → Nat} {rx : Nat → Nat → Nat} {fg : Nat → Nat → Nat → Nat} {tu ms : Nat → Nat} {mq : Nat → Nat → Nat → Nat}
theorem enM.up (h : enM v ai en ax wh rx fg tu ms mq) {i : Nat} (hi : i < en) {v' : Nat → Value} {ai' : Nat → Nat → Int32} {fg' : Nat → Nat → Nat} {tu' ms' : Nat} {mq' : Nat → Nat → Nat} (hv : v' 5 = v 5) (h6 : ∀ k, k = 6 ∨ k = 7 ∨ k = 9 → ai' k = ai k) (h8 : ∀ e, ¬ e = i → e < 4 → (ai' 8 e = ai 8 e ∧ ai' 12 e = ai 12 e) ∧ (∀ p, p < 84 → ai' 10 (84 * e + p) = ai 10 (84 * e + p)) ∧ ∀ k j, 13 ≤ k → k ≤ 16 → j < 20 → ai' k (20 * e + j) = ai k (20 * e + j)) (hF : EF (ai' 10) i (ax i) (wh i) (rx i) fg') (ht : ai' 8 i = nI tu' ∧ tu' ≤ 1000) (hM : EM ai' i (ax i) (wh i) (rx i) mq' ms') : enM v' ai' en ax wh rx (fnu fg i fg') (fnu tu i tu') (fnu ms i ms') (fnu mq i mq') := by
  obtain ⟨h1, h2, h3, h4⟩ := h
  refine ⟨h1, hv.trans h2, fun e he => ?_, fun e he he4 => ?_⟩
  · obtain ⟨⟨a1, a2, a3, a4, a5⟩, b1, c1, d1, d2, d3⟩ := h3 e he
    have q : EQ ai' e (ax e) (wh e) (rx e) := by
      refine ⟨a1, a2, ?_, ?_, ?_⟩
      · rw [h6 6 (by omega)]; exact a3
      · rw [h6 7 (by omega)]; exact a4
      · rw [h6 9 (by omega)]; exact a5
    by_cases z : e = i
    · subst z
      simp only [fnu, if_true]
      exact ⟨q, hF, ht, hM⟩
    · obtain ⟨⟨u1, u2⟩, u3, u4⟩ := h8 e z (by omega)
      simp only [fnu, z, if_false]
      refine ⟨q, fun x w hx hw => ?_, ⟨by rw [u1]; exact c1.1, c1.2⟩, by rw [u2]; exact d1, d2, fun j hj => ?_⟩
      · have := u3 (12 * x + w) (by omega)
        rw [show 12 * (7 * e + x) + w = 84 * e + (12 * x + w) by omega, this, ← show 12 * (7 * e + x) + w = 84 * e + (12 * x + w) by omega]
        exact b1 x w hx hw
      · rw [u4 13 j (by decide) (by decide) (by omega), u4 14 j (by decide) (by decide) (by omega), u4 15 j (by decide) (by decide) (by omega), u4 16 j (by decide) (by decide) (by omega)]
        exact d3 j hj
  · obtain ⟨⟨u1, u2⟩, u3, u4⟩ := h8 e (by omega) he4
    obtain ⟨g1, g2, g3⟩ := h4 e he he4
    exact ⟨u1.trans g1, u2.trans g2, fun p hp => (u3 p hp).trans (g3 p hp)⟩
theorem enM.vv (h : enM v ai en ax wh rx fg tu ms mq) {v' : Nat → Value} (hv : v' 5 = v 5) : enM v' ai en ax wh rx fg tu ms mq := ⟨h.1, hv.trans h.2.1, h.2.2⟩
theorem m_put_no (h : MO E ah m ma) (hm : enM v ai en ax wh rx fg tu ms mq) {e x w f : Int32} (hs : ¬ ptSt en ax wh rx e x w f = 0) : EV E (c + 3) 213 [.ref m, .int e, .int x, .int w, .int f] (mh E ah m ma v ai al) (some (.int 0)) (mh E ah m ma (vu (vu v 1 (.int 0)) 0 (.int (ptSt en ax wh rx e x w f))) ai al) := by
  refine e213 ?_
  have h4 := hm.1
  have hm' : enM (vu (vu v 1 (.int 0)) 0 (.int 0)) ai en ax wh rx fg tu ms mq := hm
  by_cases h0 : whSt en ax wh e x w = 0
  · have hs' : ptSt en ax wh rx e x w f = if 0 ≤ f.toInt ∧ f.toInt < rx e.toInt.toNat w.toInt.toNat then 0 else 5 := if_neg (not_not_intro h0)
    obtain ⟨i, j, k, hi, rfl, hj, rfl, hk, rfl⟩ := whSt_0 h4 h0
    obtain ⟨⟨-, b1, b2, b3, b4⟩, f1, -⟩ := hm.2.2.1 i hi
    have r1 := b4 k hk
    rw [nI_toInt (by omega), nI_toInt (by omega), Int.toNat_natCast, Int.toNat_natCast] at hs'
    have h3 : ¬ (0 ≤ f.toInt ∧ f.toInt < rx i k) := fun z => hs (by rw [hs', if_pos z])
    rw [if_neg h3] at hs'
    rw [hs']
    simp (disch := first | assumption | omega | decide | (simp only [List.length_cons, List.length_nil, Nat.reduceAdd, Nat.reduceLT]; done) | fail) only [r213_0, r213_1, r213_2, r213_5, r213_6, r213_7, r213_10, r213_11, r213_12, r213_13, r213_17, r213_20, r213_21, r213_25 (x := 0) (Or.inl rfl), r213_25 (x := 1) (Or.inr rfl), r213_25 (b2i_or _), r213_26, r213_28, r213_29, r213_30, r213_31, r213_34, r213_36, r213_37, r213_38, r213_39, r213_40, r213_41, r213_42, r213_43, r213_47, r213_50, r213_51, r213_55 (x := 0) (Or.inl rfl), r213_55 (x := 1) (Or.inr rfl), r213_55 (b2i_or _), r213_56, r213_57, r213_60, r213_61, r213_62, r213_66, r213_68, r213_69, r213_70 (x := 0) (Or.inl rfl), r213_70 (x := 1) (Or.inr rfl), r213_70 (b2i_or _), mh_o h, mh_put h, pm_1, pm_0, gm_9, WPo_some, List.getElem?_cons_succ, List.getElem?_cons_zero, kil_n, kil_i, kil_a, kil_u, kil_l, Option.toList_some, Option.toList_none, List.cons_append, List.nil_append, List.set_cons_succ, List.set_cons_zero, addm1, Nat.reduceAdd, List.length_cons, List.length_nil, Nat.reduceLT, q213_14 (m_isWheel h hm') h.ci, q213_44 m_isIn, q213_52 (m_no h) h.ci, nI_toInt, Int.toNat_natCast, b2i_eq0, not_true_eq_false, not_false_eq_true, if_true, if_false, or_self, and_self, true_and, and_true, or_true, true_or, false_or, or_false, false_and, and_false, gI, hm_9 h, nI_clamp, nI_toInt, nI_leL, nI_Lle, nI_ltL, nI_Llt, nI_eqL, nI_Leq, nI_leE, nI_ltE, nI_eqE, nI_eqM, nI_add, nI_addL, nI_Ladd, nI_mulL, nI_Lmul, pk_mul, pk_sub, nI_subL, nI_Lsub, i2l_nI, Int.toNat_natCast, Nat.not_lt_zero, Nat.zero_le, ifT, ifF, r1.1, lsb1, i64_lt, i64_le, i2l_toInt, Int64.reduceToInt, h3, vu_vu, show (0 : Int) ≤ (i : Int) ∧ (i : Int) < (en : Int) by omega, show (0 : Int) ≤ (j : Int) ∧ (j : Int) < (ax i : Int) by omega, show (0 : Int) ≤ (k : Int) ∧ (k : Int) < (wh i : Int) by omega]
  · have h5 : ¬ ((0 ≤ e.toInt ∧ e.toInt < en) ∧ (0 ≤ x.toInt ∧ x.toInt < ax e.toInt.toNat) ∧ 0 ≤ w.toInt ∧ w.toInt < wh e.toInt.toNat) := fun z => h0 (if_pos z)
    have h6 : ptSt en ax wh rx e x w f = 2 := if_pos h0
    simp (disch := first | assumption | omega | decide | (simp only [List.length_cons, List.length_nil, Nat.reduceAdd, Nat.reduceLT]; done) | fail) only [r213_0, r213_1, r213_2, r213_5, r213_6, r213_7, r213_10, r213_11, r213_12, r213_13, r213_17, r213_20, r213_21, r213_25 (x := 0) (Or.inl rfl), r213_25 (x := 1) (Or.inr rfl), r213_25 (b2i_or _), r213_26, r213_28, r213_29, r213_30, r213_31, r213_34, r213_36, r213_37, r213_38, r213_39, r213_40, r213_41, r213_42, r213_43, r213_47, r213_50, r213_51, r213_55 (x := 0) (Or.inl rfl), r213_55 (x := 1) (Or.inr rfl), r213_55 (b2i_or _), r213_56, r213_57, r213_60, r213_61, r213_62, r213_66, r213_68, r213_69, r213_70 (x := 0) (Or.inl rfl), r213_70 (x := 1) (Or.inr rfl), r213_70 (b2i_or _), mh_o h, mh_put h, pm_1, pm_0, WPo_some, List.getElem?_cons_succ, List.getElem?_cons_zero, kil_n, kil_i, kil_a, kil_u, kil_l, Option.toList_some, Option.toList_none, List.cons_append, List.nil_append, List.set_cons_succ, List.set_cons_zero, addm1, Nat.reduceAdd, List.length_cons, List.length_nil, Nat.reduceLT, q213_14 (m_isWheel h hm') h.ci, h5, b2i_eq0, not_true_eq_false, not_false_eq_true, if_true, if_false, or_self, and_self, true_and, and_true, or_true, true_or, false_or, or_false, false_and, and_false, q213_22 (m_no h) h.ci, h6, vu_vu, show ¬ (2 : Int32) = 0 by decide]
theorem m_put_ok (h : MO E ah m ma) (hm : enM v ai en ax wh rx fg tu ms mq) {i j k y : Nat} (hi : i < en) (hj : j < ax i) (hk : k < wh i) (hy : y < rx i k) : EV E (c + 3) 213 [.ref m, .int (nI i), .int (nI j), .int (nI k), .int (nI y)] (mh E ah m ma v ai al) (some (.int 1)) (mh E ah m ma (vu (vu v 1 (.int 0)) 0 (.int 0)) (iu ai 10 (upd (ai 10) (12 * (7 * i + j) + k) (nI y))) al) := by
  refine e213 ?_
  have h4 := hm.1
  have hm' : enM (vu (vu v 1 (.int 0)) 0 (.int 0)) ai en ax wh rx fg tu ms mq := hm
  obtain ⟨⟨-, b1, b2, b3, b4⟩, f1, -⟩ := hm.2.2.1 i hi
  have r1 := b4 k hk
  simp (disch := first | assumption | omega | decide | (simp only [List.length_cons, List.length_nil, Nat.reduceAdd, Nat.reduceLT]; done) | fail) only [r213_0, r213_1, r213_2, r213_5, r213_6, r213_7, r213_10, r213_11, r213_12, r213_13, r213_17, r213_20, r213_21, r213_25 (x := 0) (Or.inl rfl), r213_25 (x := 1) (Or.inr rfl), r213_25 (b2i_or _), r213_26, r213_28, r213_29, r213_30, r213_31, r213_34, r213_36, r213_37, r213_38, r213_39, r213_40, r213_41, r213_42, r213_43, r213_47, r213_50, r213_51, r213_55 (x := 0) (Or.inl rfl), r213_55 (x := 1) (Or.inr rfl), r213_55 (b2i_or _), r213_56, r213_57, r213_60, r213_61, r213_62, r213_66, r213_68, r213_69, r213_70 (x := 0) (Or.inl rfl), r213_70 (x := 1) (Or.inr rfl), r213_70 (b2i_or _), mh_o h, mh_put h, pm_1, pm_0, gm_9, gm_10, WPo_some, List.getElem?_cons_succ, List.getElem?_cons_zero, kil_n, kil_i, kil_a, kil_u, kil_l, Option.toList_some, Option.toList_none, List.cons_append, List.nil_append, List.set_cons_succ, List.set_cons_zero, addm1, Nat.reduceAdd, List.length_cons, List.length_nil, Nat.reduceLT, q213_14 (m_isWheel h hm') h.ci, q213_44 m_isIn, q213_63 m_cell, nI_toInt, Int.toNat_natCast, b2i_eq0, not_true_eq_false, not_false_eq_true, if_true, if_false, or_self, and_self, true_and, and_true, or_true, true_or, false_or, or_false, false_and, and_false, gI, pI, hm_9 h, hm_10 h, sm_10 h, nI_clamp, nI_toInt, nI_leL, nI_Lle, nI_ltL, nI_Llt, nI_eqL, nI_Leq, nI_leE, nI_ltE, nI_eqE, nI_eqM, nI_add, nI_addL, nI_Ladd, nI_mulL, nI_Lmul, pk_mul, pk_sub, nI_subL, nI_Lsub, i2l_nI, Int.toNat_natCast, Nat.not_lt_zero, Nat.zero_le, ifT, ifF, r1.1, lsb1, i64_lt, i64_le, i2l_toInt, Int64.reduceToInt, show (0 : Int) ≤ (i : Int) ∧ (i : Int) < (en : Int) by omega, show (0 : Int) ≤ (j : Int) ∧ (j : Int) < (ax i : Int) by omega, show (0 : Int) ≤ (k : Int) ∧ (k : Int) < (wh i : Int) by omega, show (0 : Int) ≤ (y : Int) ∧ (y : Int) < (rx i k : Int) by omega]
theorem enM.put (hm : enM v ai en ax wh rx fg tu ms mq) {v' : Nat → Value} (hv : v' 5 = v 5) {i j k y : Nat} (hi : i < en) (hj : j < ax i) (hk : k < wh i) (hy : y < rx i k) : enM v' (iu ai 10 (upd (ai 10) (12 * (7 * i + j) + k) (nI y))) en ax wh rx (fnu fg i (fnu2 (fg i) j k y)) tu ms mq := by
  have h4 := hm.1
  obtain ⟨⟨-, b1, b2, b3, b4⟩, f1, t1, e1⟩ := hm.2.2.1 i hi
  have := hm.up (v' := v') (ai' := iu ai 10 (upd (ai 10) (12 * (7 * i + j) + k) (nI y))) (fg' := fnu2 (fg i) j k y) hi hv (fun k hk => iu_ne (by omega)) (fun e he he4 => ⟨⟨by rw [iu_ne (by decide)], by rw [iu_ne (by decide)]⟩, fun p hp => by rw [iu_at]; exact if_neg (by omega), fun k j h1 h2 h3 => by rw [iu_ne (by omega)]⟩) (fun x w hx hw => by
    rw [iu_at]
    unfold upd fnu2
    by_cases z : x = j ∧ w = k
    · rw [if_pos (by omega), if_pos z]
      exact ⟨rfl, by rw [z.2]; exact hy⟩
    · rw [if_neg (by omega), if_neg z]
      exact f1 x w hx hw) (by rw [iu_ne (by decide)]; exact t1) (by
    unfold EM
    simp only [iu, Nat.reduceEqDiff, if_false]
    exact e1)
  rw [fnu_self, fnu_self, fnu_self] at this
  exact this
/-- a number from the top -/
noncomputable def hrn (r f : Nat → Nat) (wh : Nat) : Nat → Nat
  | 0 => 0
  | z + 1 => hrn r f wh z * r (wh - 1 - z) + f (wh - 1 - z)
theorem hrn_is {r f : Nat → Nat} {wh : Nat} : ∀ z, z ≤ wh → nmb r f wh = nmb r f (wh - z) + hrn r f wh z * wt r (wh - z)
  | 0, _ => by simp [hrn]
  | z + 1, hz => by
    rw [hrn_is z (by omega)]
    obtain ⟨k, hk⟩ : ∃ k, wh - z = k + 1 := ⟨wh - z - 1, by omega⟩
    rw [hk, show wh - (z + 1) = k by omega, hrn, show wh - 1 - z = k by omega, nmb, wt, Nat.add_mul, Nat.mul_assoc, Nat.mul_comm (r k) (wt r k)]
    omega
theorem l_onAxis (h : MO E ah m ma) {e axx whh x : Nat} {r : Nat → Nat} {fg : Nat → Nat → Nat} (hq : EQ ai e axx whh r) (hf : EF (ai 10) e axx whh r fg) (hx : x < axx) : ∀ w z, w + z = whh → WP E (c + 1) 214 12 [some (.ref m), some (.int (nI e)), some (.int (nI x)), some (.long (lN (hrn r (fg x) whh z))), none, some (.int (nI w - 1))] [] (mh E ah m ma v ai al) (fun r1 x1 => r1 = some (.long (lN (nmb r (fg x) whh))) ∧ x1 = mh E ah m ma v ai al)
  | 0, z, hz => by
    rw [show z = whh by omega, hrn_is whh (Nat.le_refl _), Nat.sub_self, nmb, wt, r214_12]
    simp (disch := first | assumption | omega | decide | (simp only [List.length_cons, List.length_nil, Nat.reduceAdd, Nat.reduceLT]; done) | fail) only [r214_14, r214_53, r214_54, WPo_some, List.getElem?_cons_succ, List.getElem?_cons_zero, kil_n, kil_i, kil_a, kil_u, kil_l, Option.toList_some, Option.toList_none, List.cons_append, List.nil_append, List.set_cons_succ, List.set_cons_zero, addm1, Nat.reduceAdd, List.length_cons, List.length_nil, Nat.reduceLT, show (nI 0 - 1 : Int32) = -1 by decide, show (-1 : Int32) < 0 by decide, not_true_eq_false, not_false_eq_true, if_true, if_false, or_self, and_self, true_and, and_true, or_true, true_or, false_or, or_false, false_and, and_false, Nat.mul_one, Nat.zero_add]
  | w + 1, z, hz => by
    have ih := l_onAxis h hq hf hx w (z + 1) (by omega)
    obtain ⟨q1, q2, q3, q4, q5⟩ := hq
    have f1 := (hf x w hx (by omega)).1
    have r1 := (q5 w (by omega)).1
    have f2 := (hf x w hx (by omega)).2
    have r2 := (q5 w (by omega)).2
    rw [hrn, show whh - 1 - z = w by omega] at ih
    rw [r214_12]
    simp (disch := first | assumption | omega | decide | (simp only [List.length_cons, List.length_nil, Nat.reduceAdd, Nat.reduceLT]; done) | fail) only [r214_14, r214_17, r214_18, r214_19, r214_22, r214_24, r214_25, r214_26, r214_28, r214_29, r214_30, r214_31, r214_32, r214_33, r214_36, r214_37, r214_38, r214_43, r214_44, r214_45, r214_46, r214_47, r214_50, mh_o h, gm_9, gm_10, WPo_some, List.getElem?_cons_succ, List.getElem?_cons_zero, kil_n, kil_i, kil_a, kil_u, kil_l, Option.toList_some, Option.toList_none, List.cons_append, List.nil_append, List.set_cons_succ, List.set_cons_zero, addm1, Nat.reduceAdd, List.length_cons, List.length_nil, Nat.reduceLT, gI, hm_9 h, hm_10 h, q214_40 m_cell, nI_clamp, nI_toInt, nI_leL, nI_Lle, nI_ltL, nI_Llt, nI_eqL, nI_Leq, nI_leE, nI_ltE, nI_eqE, nI_eqM, nI_add, nI_addL, nI_Ladd, nI_mulL, nI_Lmul, pk_mul, pk_sub, nI_subL, nI_Lsub, i2l_nI, Int.toNat_natCast, Nat.not_lt_zero, Nat.zero_le, ifT, ifF, not_true_eq_false, not_false_eq_true, if_true, if_false, or_self, and_self, true_and, and_true, or_true, true_or, false_or, or_false, false_and, and_false, f1, r1, nI_l, lN_mul, lN_add, Nat.add_sub_cancel]
    exact ih
theorem m_onAxis (h : MO E ah m ma) {e axx whh x : Nat} {r : Nat → Nat} {fg : Nat → Nat → Nat} (hq : EQ ai e axx whh r) (hf : EF (ai 10) e axx whh r fg) (hx : x < axx) : EV E (c + 1) 214 [.ref m, .int (nI e), .int (nI x)] (mh E ah m ma v ai al) (some (.long (lN (nmb r (fg x) whh)))) (mh E ah m ma v ai al) := by
  refine e214 ?_
  have l1 := l_onAxis (v := v) (al := al) (c := c) h hq hf hx whh 0 (by omega)
  obtain ⟨q1, q2, q3, q4, q5⟩ := hq
  simp (disch := first | assumption | omega | decide | (simp only [List.length_cons, List.length_nil, Nat.reduceAdd, Nat.reduceLT]; done) | fail) only [r214_0, r214_1, r214_2, r214_3, r214_6, r214_7, r214_8, r214_9, r214_10, mh_o h, gm_7, WPo_some, List.getElem?_cons_succ, List.getElem?_cons_zero, kil_n, kil_i, kil_a, kil_u, kil_l, Option.toList_some, Option.toList_none, List.cons_append, List.nil_append, List.set_cons_succ, List.set_cons_zero, addm1, Nat.reduceAdd, List.length_cons, List.length_nil, Nat.reduceLT, gI, hm_7 h, nI_clamp, nI_toInt, nI_leL, nI_Lle, nI_ltL, nI_Llt, nI_eqL, nI_Leq, nI_leE, nI_ltE, nI_eqE, nI_eqM, nI_add, nI_addL, nI_Ladd, nI_mulL, nI_Lmul, pk_mul, pk_sub, nI_subL, nI_Lsub, i2l_nI, Int.toNat_natCast, Nat.not_lt_zero, Nat.zero_le, ifT, ifF, not_true_eq_false, not_false_eq_true, if_true, if_false, or_self, and_self, true_and, and_true, or_true, true_or, false_or, or_false, false_and, and_false, q4]
  simp (disch := first | assumption | omega | decide | (simp only [List.length_cons, List.length_nil, Nat.reduceAdd, Nat.reduceLT]; done) | fail) only [nI_subL] at l1
  exact l1
theorem m_number (h : MO E ah m ma) (hm : enM v ai en ax wh rx fg tu ms mq) {e x : Int32} : EV E (c + 3) 215 [.ref m, .int e, .int x] (mh E ah m ma v ai al) (some (.long (if nuSt en ax e x = 0 then lN (nmb (rx e.toInt.toNat) (fg e.toInt.toNat x.toInt.toNat) (wh e.toInt.toNat)) else -1))) (mh E ah m ma (vu (vu v 1 (.int 0)) 0 (.int (nuSt en ax e x))) ai al) := by
  refine e215 ?_
  have h4 := hm.1
  have hv := hm.2.1
  have hv' : vu (vu v 1 (.int 0)) 0 (.int 0) 5 = .int (nI en) := hv
  by_cases h1 : 0 ≤ e.toInt ∧ e.toInt < en
  · obtain ⟨i, hi, rfl⟩ := i32_nat (n := en) h1.1 h1.2
    obtain ⟨hq, f1, -⟩ := hm.2.2.1 i hi
    have hq' := hq
    obtain ⟨-, b1, b2, b3, b4⟩ := hq'
    have e0 : nuSt en ax (nI i) x = if 0 ≤ x.toInt ∧ x.toInt < ax i then 0 else 2 := by
      unfold nuSt
      simp only [nI_toInt (show i < 2 ^ 31 by omega), Int.toNat_natCast, show (0 : Int) ≤ (i : Int) ∧ (i : Int) < (en : Int) by omega, true_and]
    rw [e0]
    by_cases h2 : 0 ≤ x.toInt ∧ x.toInt < ax i
    · obtain ⟨j, hj, rfl⟩ := i32_nat h2.1 h2.2
      simp (disch := first | assumption | omega | decide | (simp only [List.length_cons, List.length_nil, Nat.reduceAdd, Nat.reduceLT]; done) | fail) only [r215_0, r215_1, r215_2, r215_5, r215_6, r215_7, r215_10, r215_11, r215_15, r215_18, r215_19, r215_20, r215_21, r215_22, r215_25, r215_26, r215_27, r215_28, r215_29, r215_33, r215_36, r215_37, r215_38, r215_42, r215_45, r215_46, r215_50, r215_51, mh_o h, mh_put h, pm_1, pm_0, gm_6, WPo_some, List.getElem?_cons_succ, List.getElem?_cons_zero, kil_n, kil_i, kil_a, kil_u, kil_l, Option.toList_some, Option.toList_none, List.cons_append, List.nil_append, List.set_cons_succ, List.set_cons_zero, addm1, Nat.reduceAdd, List.length_cons, List.length_nil, Nat.reduceLT, q215_12 (m_isEngine h hv' h4) h.ci, q215_30 m_isIn, q215_39 (m_onAxis h hq f1 hj) h.ci, h1, h2, b2i_eq0, not_true_eq_false, not_false_eq_true, if_true, if_false, or_self, and_self, true_and, and_true, or_true, true_or, false_or, or_false, false_and, and_false, gI, hm_6 h, b2, lsb1, i64_lt, i64_le, i2l_toInt, Int64.reduceToInt, nI_clamp, nI_toInt, nI_leL, nI_Lle, nI_ltL, nI_Llt, nI_eqL, nI_Leq, nI_leE, nI_ltE, nI_eqE, nI_eqM, nI_add, nI_addL, nI_Ladd, nI_mulL, nI_Lmul, pk_mul, pk_sub, nI_subL, nI_Lsub, i2l_nI, Int.toNat_natCast, Nat.not_lt_zero, Nat.zero_le, ifT, ifF]
    · simp (disch := first | assumption | omega | decide | (simp only [List.length_cons, List.length_nil, Nat.reduceAdd, Nat.reduceLT]; done) | fail) only [r215_0, r215_1, r215_2, r215_5, r215_6, r215_7, r215_10, r215_11, r215_15, r215_18, r215_19, r215_20, r215_21, r215_22, r215_25, r215_26, r215_27, r215_28, r215_29, r215_33, r215_36, r215_37, r215_38, r215_42, r215_45, r215_46, r215_50, r215_51, mh_o h, mh_put h, pm_1, pm_0, gm_6, WPo_some, List.getElem?_cons_succ, List.getElem?_cons_zero, kil_n, kil_i, kil_a, kil_u, kil_l, Option.toList_some, Option.toList_none, List.cons_append, List.nil_append, List.set_cons_succ, List.set_cons_zero, addm1, Nat.reduceAdd, List.length_cons, List.length_nil, Nat.reduceLT, q215_12 (m_isEngine h hv' h4) h.ci, q215_30 m_isIn, q215_47 (m_refuse h) h.ci, h1, h2, b2i_eq0, not_true_eq_false, not_false_eq_true, if_true, if_false, or_self, and_self, true_and, and_true, or_true, true_or, false_or, or_false, false_and, and_false, gI, hm_6 h, b2, lsb1, i64_lt, i64_le, i2l_toInt, Int64.reduceToInt, nI_clamp, nI_toInt, nI_leL, nI_Lle, nI_ltL, nI_Llt, nI_eqL, nI_Leq, nI_leE, nI_ltE, nI_eqE, nI_eqM, nI_add, nI_addL, nI_Ladd, nI_mulL, nI_Lmul, pk_mul, pk_sub, nI_subL, nI_Lsub, i2l_nI, Int.toNat_natCast, Nat.not_lt_zero, Nat.zero_le, ifT, ifF, vu_vu, show ¬ (2 : Int32) = 0 by decide, show (-1 : Int32).toInt64 = -1 by decide]
  · have e0 : nuSt en ax e x = 2 := if_neg (fun z => h1 z.1)
    rw [e0]
    simp (disch := first | assumption | omega | decide | (simp only [List.length_cons, List.length_nil, Nat.reduceAdd, Nat.reduceLT]; done) | fail) only [r215_0, r215_1, r215_2, r215_5, r215_6, r215_7, r215_10, r215_11, r215_15, r215_18, r215_19, r215_20, r215_21, r215_22, r215_25, r215_26, r215_27, r215_28, r215_29, r215_33, r215_36, r215_37, r215_38, r215_42, r215_45, r215_46, r215_50, r215_51, mh_o h, mh_put h, pm_1, pm_0, WPo_some, List.getElem?_cons_succ, List.getElem?_cons_zero, kil_n, kil_i, kil_a, kil_u, kil_l, Option.toList_some, Option.toList_none, List.cons_append, List.nil_append, List.set_cons_succ, List.set_cons_zero, addm1, Nat.reduceAdd, List.length_cons, List.length_nil, Nat.reduceLT, q215_12 (m_isEngine h hv' h4) h.ci, q215_47 (m_refuse h) h.ci, h1, b2i_eq0, not_true_eq_false, not_false_eq_true, if_true, if_false, or_self, and_self, true_and, and_true, or_true, true_or, false_or, or_false, false_and, and_false, vu_vu, show ¬ (2 : Int32) = 0 by decide, show (-1 : Int32).toInt64 = -1 by decide]
end ENM2

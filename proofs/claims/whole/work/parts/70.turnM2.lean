/-! A turn of the model's engine, whole -/
noncomputable def same84 (F F' : Nat → Int32) (e : Nat) : Prop := ∀ p, p < 84 * e ∨ 84 * e + 84 ≤ p → F' p = F p
noncomputable def slp (r : Nat → Nat) (cnt : Nat → Nat → Nat → Nat) (fg : Nat → Nat → Nat) (x w : Nat) : Nat → Nat → Nat := fun y u => if y < x ∨ (y = x ∧ u < w) then dcN (r u) (cnt y u 0) (fg y u) else fg y u
theorem dcN_s {r : Nat} : ∀ {n f : Nat}, dcN r n (dec1 r f) = dcN r (n + 1) f
  | 0, _ => rfl
  | n + 1, f => by rw [dcN, dcN_s, ← dcN]
theorem dec1_m {r f : Nat} (hf : f < r) : (f + r - 1) % r = dec1 r f := by
  unfold dec1
  split
  · next z => rw [z, Nat.zero_add, Nat.mod_eq_of_lt (by omega)]
  · rw [show f + r - 1 = (f - 1) + r by omega, Nat.add_mod_right, Nat.mod_eq_of_lt (by omega)]
section TUM2
variable {E : aEnv} {c m : Nat} {ah : aHp} {ma : Nat → Nat} {v : Nat → Value} {ai : Nat → Nat → Int32} {al : Nat → Nat → Int64} {e t axx whh : Nat} {tr : Int32} {cnt : Nat → Nat → Nat → Nat} {r : Nat → Nat} {F Z : Nat → Int32} {Q : Option Value → aHp → Prop}
theorem m_adds (h : MO E ah m ma) (hq : EQ ai e axx whh r) (hc : MC E c ah m ma v ai al e t axx whh tr cnt) {x : Nat} (hx : x + 1 < axx) {fg : Nat → Nat → Nat} (hF : EF F e axx whh r fg) : EV E (c + 1) 222 [.ref m, .int (nI e), .int (nI (x + 1)), .int (nI t), .int tr] (mh E ah m ma v (iu (iu ai 10 F) 17 Z) al) none (mh E ah m ma v (iu (iu ai 10 (ovr F (12 * (7 * e + x)) whh (fun w => nI (f2A r (fg x) (fg (x + 1)) (fun w => decide (0 < cnt x w 2)) (fun w => decide (0 < cnt x w 1)) w)))) 17 (ovr Z 0 whh (fun w => bI (cyA r (fg x) (fg (x + 1)) (fun w => decide (0 < cnt x w 2)) (fun w => decide (0 < cnt x w 1)) w)))) al) := by
  refine e222 ?_
  have hf := fun w hw => hF x w (by omega) hw
  have hg := fun w hw => hF (x + 1) w hx hw
  have b := hq.2.1
  have h1 := l_mA1 (c := c) (Z := Z) h hq hc hx hf hg (Q := fun r1 x1 => r1 = none ∧ x1 = mh E ah m ma v (iu (iu ai 10 (ovr F (12 * (7 * e + x)) whh (fun w => nI (f2A r (fg x) (fg (x + 1)) (fun w => decide (0 < cnt x w 2)) (fun w => decide (0 < cnt x w 1)) w)))) 17 (ovr Z 0 whh (fun w => bI (cyA r (fg x) (fg (x + 1)) (fun w => decide (0 < cnt x w 2)) (fun w => decide (0 < cnt x w 1)) w)))) al) (fun l6 l7 l8 => by
    have h2 := l_mA2 (c := c) (F := F) (Z := Z) (jm := fun w => decide (0 < cnt x w 2)) h hq hc hx rfl (fun w z => (hf w z).2) (fun w z => (hg w z).2) (whh - 1) 0 l6 l7 l8 (by omega)
    have e1 : (fun j => nI (if j < 0 + 1 then f2A r (fg x) (fg (x + 1)) (fun w => decide (0 < cnt x w 2)) (fun w => decide (0 < cnt x w 1)) j else f1A r (fg x) (fg (x + 1)) (fun w => decide (0 < cnt x w 2)) j)) = fun w => nI (f1A r (fg x) (fg (x + 1)) (fun w => decide (0 < cnt x w 2)) w) := by
      funext j
      cases j with
      | zero => simp [f2A]
      | succ j => simp
    have e2 : (fun j => bI (if j < 0 + 1 then cyA r (fg x) (fg (x + 1)) (fun w => decide (0 < cnt x w 2)) (fun w => decide (0 < cnt x w 1)) j else decide (r j ≤ mvA (fg x) (fg (x + 1)) (fun w => decide (0 < cnt x w 2)) j))) = fun w => bI (decide (r w ≤ mvA (fg x) (fg (x + 1)) (fun w => decide (0 < cnt x w 2)) w)) := by
      funext j
      cases j with
      | zero => simp [cyA]
      | succ j => simp
    rw [e1, e2] at h2
    simp only [r222_127, r222_128, kil_i, WPo_some, List.getElem?_cons_succ, List.getElem?_cons_zero, kil_n, kil_i, kil_a, kil_u, kil_l, Option.toList_some, Option.toList_none, List.cons_append, List.nil_append, List.set_cons_succ, List.set_cons_zero, addm1, Nat.reduceAdd, List.length_cons, List.length_nil, Nat.reduceLT]
    exact h2) whh 0
  rw [ovr_0, ovr_0] at h1
  simp only [r222_0, r222_1, kil_i, WPo_some, List.getElem?_cons_succ, List.getElem?_cons_zero, kil_n, kil_i, kil_a, kil_u, kil_l, Option.toList_some, Option.toList_none, List.cons_append, List.nil_append, List.set_cons_succ, List.set_cons_zero, addm1, Nat.reduceAdd, List.length_cons, List.length_nil, Nat.reduceLT]
  exact h1 _ _ _ (by omega)
theorem EF_add {fg : Nat → Nat → Nat} {jm sk : Nat → Nat → Bool} {x : Nat} (hx : x + 1 < axx) (h7 : axx ≤ 7 ∧ whh ≤ 12) (hF : EF F e axx whh r fg) : EF (ovr F (12 * (7 * e + x)) whh (fun w => nI (f2A r (fg x) (fg (x + 1)) (jm x) (sk x) w))) e axx whh r (addAx r jm sk x fg) ∧ same84 F (ovr F (12 * (7 * e + x)) whh (fun w => nI (f2A r (fg x) (fg (x + 1)) (jm x) (sk x) w))) e := by
  constructor
  · intro y w hy hw
    unfold addAx
    by_cases z : y = x
    · subst z
      rw [ovr_in hw, if_pos rfl]
      exact ⟨rfl, f2A_lt (hF y w hy hw).2 (hF (y + 1) w hx hw).2⟩
    · rw [if_neg z, ovr_out (by omega)]
      exact hF y w hy hw
  · intro p hp
    exact ovr_out (by omega)
theorem s84_tr {F F' F'' : Nat → Int32} (h : same84 F F' e) (h2 : same84 F' F'' e) : same84 F F'' e := fun p hp => (h2 p hp).trans (h p hp)
theorem MC_up (hc : MC E c ah m ma v ai al e t axx whh tr cnt) : MC E (c + 1) ah m ma v ai al e t axx whh tr cnt := ⟨hc.1, fun F Z x w k K h1 h2 h3 h4 => (hc.2 F Z x w k K h1 h2 h3 h4).deep (by omega)⟩
theorem l_mE (h : MO E ah m ma) (hq : EQ ai e axx whh r) (hc : MC E c ah m ma v ai al e t axx whh tr cnt) {l5 l6 l7 l8 : Option Value} : ∀ k x F Z fg, x ≤ 8 → axx ≤ x + 2 * k → EF F e axx whh r fg → ∃ F' Z' l4, EF F' e axx whh r (adS axx r (fun x w => decide (0 < cnt x w 2)) (fun x w => decide (0 < cnt x w 1)) k x fg) ∧ same84 F F' e ∧ ∀ Q, WP E (c + 2) 223 29 [some (.ref m), some (.int (nI e)), some (.int (nI t)), some (.int tr), l4, l5, l6, l7, l8] [] (mh E ah m ma v (iu (iu ai 10 F') 17 Z') al) Q → WP E (c + 2) 223 3 [some (.ref m), some (.int (nI e)), some (.int (nI t)), some (.int tr), some (.int (nI (x + 1))), l5, l6, l7, l8] [] (mh E ah m ma v (iu (iu ai 10 F) 17 Z) al) Q
  | 0, x, F, Z, fg, h8, hk, hF => by
    obtain ⟨q1, q2, q3, q4, q5⟩ := hq
    refine ⟨F, Z, some (.int (nI (x + 1))), hF, fun p hp => rfl, fun Q K => ?_⟩
    · rw [r223_3]
      simp (disch := first | assumption | omega | decide | (simp only [List.length_cons, List.length_nil, Nat.reduceAdd, Nat.reduceLT]; done) | fail) only [r223_5, r223_6, r223_9, r223_10, r223_11, mh_o h, gm_6, WPo_some, List.getElem?_cons_succ, List.getElem?_cons_zero, kil_n, kil_i, kil_a, kil_u, kil_l, Option.toList_some, Option.toList_none, List.cons_append, List.nil_append, List.set_cons_succ, List.set_cons_zero, addm1, Nat.reduceAdd, List.length_cons, List.length_nil, Nat.reduceLT, gI, hm_6 h, iu_ne, q3, nI_clamp, nI_toInt, nI_leL, nI_Lle, nI_ltL, nI_Llt, nI_eqL, nI_Leq, nI_leE, nI_ltE, nI_eqE, nI_eqM, nI_add, nI_addL, nI_Ladd, nI_mulL, nI_Lmul, pk_mul, pk_sub, nI_subL, nI_Lsub, i2l_nI, Int.toNat_natCast, Nat.not_lt_zero, Nat.zero_le, ifT, ifF, not_true_eq_false, not_false_eq_true, if_true, if_false, or_self, and_self, true_and, and_true, or_true, true_or, false_or, or_false, false_and, and_false]
      exact K
  | k + 1, x, F, Z, fg, h8, hk, hF => by
    by_cases hx : x + 1 < axx
    · have a1 := m_adds (c := c) (Z := Z) h hq hc hx hF
      obtain ⟨f1, s1⟩ := EF_add (jm := fun x w => decide (0 < cnt x w 2)) (sk := fun x w => decide (0 < cnt x w 1)) hx ⟨hq.2.1.2.1, hq.2.1.2.2.2⟩ hF
      obtain ⟨F2, Z2, l4, f2, s2, e2⟩ := l_mE h hq hc k (x + 2) _ (ovr Z 0 whh (fun w => bI (cyA r (fg x) (fg (x + 1)) (fun w => decide (0 < cnt x w 2)) (fun w => decide (0 < cnt x w 1)) w))) _ (by have := hq.2.1; omega) (by omega) f1
      obtain ⟨q1, q2, q3, q4, q5⟩ := hq
      refine ⟨F2, Z2, l4, by rw [adS, if_pos hx]; exact f2, s84_tr s1 s2, fun Q K => ?_⟩
      have K2 := e2 Q K
      rw [r223_3]
      simp (disch := first | assumption | omega | decide | (simp only [List.length_cons, List.length_nil, Nat.reduceAdd, Nat.reduceLT]; done) | fail) only [r223_5, r223_6, r223_9, r223_10, r223_11, r223_14, r223_15, r223_16, r223_18, r223_19, mh_o h, gm_6, WPo_some, List.getElem?_cons_succ, List.getElem?_cons_zero, kil_n, kil_i, kil_a, kil_u, kil_l, Option.toList_some, Option.toList_none, List.cons_append, List.nil_append, List.set_cons_succ, List.set_cons_zero, addm1, Nat.reduceAdd, List.length_cons, List.length_nil, Nat.reduceLT, gI, hm_6 h, iu_ne, q3, nI_clamp, nI_toInt, nI_leL, nI_Lle, nI_ltL, nI_Llt, nI_eqL, nI_Leq, nI_leE, nI_ltE, nI_eqE, nI_eqM, nI_add, nI_addL, nI_Ladd, nI_mulL, nI_Lmul, pk_mul, pk_sub, nI_subL, nI_Lsub, i2l_nI, Int.toNat_natCast, Nat.not_lt_zero, Nat.zero_le, ifT, ifF, not_true_eq_false, not_false_eq_true, if_true, if_false, or_self, and_self, true_and, and_true, or_true, true_or, false_or, or_false, false_and, and_false, q223_20 a1 h.ci, r223_23, r223_26]
      exact K2
    · obtain ⟨q1, q2, q3, q4, q5⟩ := hq
      refine ⟨F, Z, some (.int (nI (x + 1))), by rw [adS, if_neg hx]; exact hF, fun p hp => rfl, fun Q K => ?_⟩
      · rw [r223_3]
        simp (disch := first | assumption | omega | decide | (simp only [List.length_cons, List.length_nil, Nat.reduceAdd, Nat.reduceLT]; done) | fail) only [r223_5, r223_6, r223_9, r223_10, r223_11, mh_o h, gm_6, WPo_some, List.getElem?_cons_succ, List.getElem?_cons_zero, kil_n, kil_i, kil_a, kil_u, kil_l, Option.toList_some, Option.toList_none, List.cons_append, List.nil_append, List.set_cons_succ, List.set_cons_zero, addm1, Nat.reduceAdd, List.length_cons, List.length_nil, Nat.reduceLT, gI, hm_6 h, iu_ne, q3, nI_clamp, nI_toInt, nI_leL, nI_Lle, nI_ltL, nI_Llt, nI_eqL, nI_Leq, nI_leE, nI_ltE, nI_eqE, nI_eqM, nI_add, nI_addL, nI_Ladd, nI_mulL, nI_Lmul, pk_mul, pk_sub, nI_subL, nI_Lsub, i2l_nI, Int.toNat_natCast, Nat.not_lt_zero, Nat.zero_le, ifT, ifF, not_true_eq_false, not_false_eq_true, if_true, if_false, or_self, and_self, true_and, and_true, or_true, true_or, false_or, or_false, false_and, and_false]
        exact K
theorem l_mO (h : MO E ah m ma) (hq : EQ ai e axx whh r) (hc : MC E c ah m ma v ai al e t axx whh tr cnt) {l5 l6 l7 l8 : Option Value} : ∀ k x F Z fg, x ≤ 8 → axx ≤ x + 2 * k → EF F e axx whh r fg → ∃ F' Z' l4, EF F' e axx whh r (adS axx r (fun x w => decide (0 < cnt x w 2)) (fun x w => decide (0 < cnt x w 1)) k x fg) ∧ same84 F F' e ∧ ∀ Q, WP E (c + 2) 223 58 [some (.ref m), some (.int (nI e)), some (.int (nI t)), some (.int tr), l4, l5, l6, l7, l8] [] (mh E ah m ma v (iu (iu ai 10 F') 17 Z') al) Q → WP E (c + 2) 223 32 [some (.ref m), some (.int (nI e)), some (.int (nI t)), some (.int tr), some (.int (nI (x + 1))), l5, l6, l7, l8] [] (mh E ah m ma v (iu (iu ai 10 F) 17 Z) al) Q
  | 0, x, F, Z, fg, h8, hk, hF => by
    obtain ⟨q1, q2, q3, q4, q5⟩ := hq
    refine ⟨F, Z, some (.int (nI (x + 1))), hF, fun p hp => rfl, fun Q K => ?_⟩
    · rw [r223_32]
      simp (disch := first | assumption | omega | decide | (simp only [List.length_cons, List.length_nil, Nat.reduceAdd, Nat.reduceLT]; done) | fail) only [r223_34, r223_35, r223_38, r223_39, r223_40, mh_o h, gm_6, WPo_some, List.getElem?_cons_succ, List.getElem?_cons_zero, kil_n, kil_i, kil_a, kil_u, kil_l, Option.toList_some, Option.toList_none, List.cons_append, List.nil_append, List.set_cons_succ, List.set_cons_zero, addm1, Nat.reduceAdd, List.length_cons, List.length_nil, Nat.reduceLT, gI, hm_6 h, iu_ne, q3, nI_clamp, nI_toInt, nI_leL, nI_Lle, nI_ltL, nI_Llt, nI_eqL, nI_Leq, nI_leE, nI_ltE, nI_eqE, nI_eqM, nI_add, nI_addL, nI_Ladd, nI_mulL, nI_Lmul, pk_mul, pk_sub, nI_subL, nI_Lsub, i2l_nI, Int.toNat_natCast, Nat.not_lt_zero, Nat.zero_le, ifT, ifF, not_true_eq_false, not_false_eq_true, if_true, if_false, or_self, and_self, true_and, and_true, or_true, true_or, false_or, or_false, false_and, and_false]
      exact K
  | k + 1, x, F, Z, fg, h8, hk, hF => by
    by_cases hx : x + 1 < axx
    · have a1 := m_adds (c := c) (Z := Z) h hq hc hx hF
      obtain ⟨f1, s1⟩ := EF_add (jm := fun x w => decide (0 < cnt x w 2)) (sk := fun x w => decide (0 < cnt x w 1)) hx ⟨hq.2.1.2.1, hq.2.1.2.2.2⟩ hF
      obtain ⟨F2, Z2, l4, f2, s2, e2⟩ := l_mO h hq hc k (x + 2) _ (ovr Z 0 whh (fun w => bI (cyA r (fg x) (fg (x + 1)) (fun w => decide (0 < cnt x w 2)) (fun w => decide (0 < cnt x w 1)) w))) _ (by have := hq.2.1; omega) (by omega) f1
      obtain ⟨q1, q2, q3, q4, q5⟩ := hq
      refine ⟨F2, Z2, l4, by rw [adS, if_pos hx]; exact f2, s84_tr s1 s2, fun Q K => ?_⟩
      have K2 := e2 Q K
      rw [r223_32]
      simp (disch := first | assumption | omega | decide | (simp only [List.length_cons, List.length_nil, Nat.reduceAdd, Nat.reduceLT]; done) | fail) only [r223_34, r223_35, r223_38, r223_39, r223_40, r223_43, r223_44, r223_45, r223_47, r223_48, mh_o h, gm_6, WPo_some, List.getElem?_cons_succ, List.getElem?_cons_zero, kil_n, kil_i, kil_a, kil_u, kil_l, Option.toList_some, Option.toList_none, List.cons_append, List.nil_append, List.set_cons_succ, List.set_cons_zero, addm1, Nat.reduceAdd, List.length_cons, List.length_nil, Nat.reduceLT, gI, hm_6 h, iu_ne, q3, nI_clamp, nI_toInt, nI_leL, nI_Lle, nI_ltL, nI_Llt, nI_eqL, nI_Leq, nI_leE, nI_ltE, nI_eqE, nI_eqM, nI_add, nI_addL, nI_Ladd, nI_mulL, nI_Lmul, pk_mul, pk_sub, nI_subL, nI_Lsub, i2l_nI, Int.toNat_natCast, Nat.not_lt_zero, Nat.zero_le, ifT, ifF, not_true_eq_false, not_false_eq_true, if_true, if_false, or_self, and_self, true_and, and_true, or_true, true_or, false_or, or_false, false_and, and_false, q223_49 a1 h.ci, r223_52, r223_55]
      exact K2
    · obtain ⟨q1, q2, q3, q4, q5⟩ := hq
      refine ⟨F, Z, some (.int (nI (x + 1))), by rw [adS, if_neg hx]; exact hF, fun p hp => rfl, fun Q K => ?_⟩
      · rw [r223_32]
        simp (disch := first | assumption | omega | decide | (simp only [List.length_cons, List.length_nil, Nat.reduceAdd, Nat.reduceLT]; done) | fail) only [r223_34, r223_35, r223_38, r223_39, r223_40, mh_o h, gm_6, WPo_some, List.getElem?_cons_succ, List.getElem?_cons_zero, kil_n, kil_i, kil_a, kil_u, kil_l, Option.toList_some, Option.toList_none, List.cons_append, List.nil_append, List.set_cons_succ, List.set_cons_zero, addm1, Nat.reduceAdd, List.length_cons, List.length_nil, Nat.reduceLT, gI, hm_6 h, iu_ne, q3, nI_clamp, nI_toInt, nI_leL, nI_Lle, nI_ltL, nI_Llt, nI_eqL, nI_Leq, nI_leE, nI_ltE, nI_eqE, nI_eqM, nI_add, nI_addL, nI_Ladd, nI_mulL, nI_Lmul, pk_mul, pk_sub, nI_subL, nI_Lsub, i2l_nI, Int.toNat_natCast, Nat.not_lt_zero, Nat.zero_le, ifT, ifF, not_true_eq_false, not_false_eq_true, if_true, if_false, or_self, and_self, true_and, and_true, or_true, true_or, false_or, or_false, false_and, and_false]
        exact K
theorem l_sl (h : MO E ah m ma) (hq : EQ ai e axx whh r) {x w : Nat} (hx : x < axx) (hw : w < whh) : ∀ n f F, n ≤ 20 → F (12 * (7 * e + x) + w) = nI f → f < r w → (WP E c 223 159 [some (.ref m), some (.int (nI e)), some (.int (nI t)), some (.int tr), some (.int (nI x)), some (.int (nI w)), some (.int (nI (r w))), some (.int (nI (12 * (7 * e + x) + w))), some (.int (nI 0))] [] (mh E ah m ma v (iu (iu ai 10 (upd F (12 * (7 * e + x) + w) (nI (dcN (r w) n f)))) 17 Z) al) Q) → WP E c 223 126 [some (.ref m), some (.int (nI e)), some (.int (nI t)), some (.int tr), some (.int (nI x)), some (.int (nI w)), some (.int (nI (r w))), some (.int (nI (12 * (7 * e + x) + w))), some (.int (nI n))] [] (mh E ah m ma v (iu (iu ai 10 F) 17 Z) al) Q
  | 0, f, F, hn, hF, hf, K => by
    rw [dcN, ← hF, upd_self] at K
    rw [r223_126]
    simp (disch := first | assumption | omega | decide | (simp only [List.length_cons, List.length_nil, Nat.reduceAdd, Nat.reduceLT]; done) | fail) only [r223_128, WPo_some, List.getElem?_cons_succ, List.getElem?_cons_zero, kil_n, kil_i, kil_a, kil_u, kil_l, Option.toList_some, Option.toList_none, List.cons_append, List.nil_append, List.set_cons_succ, List.set_cons_zero, addm1, Nat.reduceAdd, List.length_cons, List.length_nil, Nat.reduceLT, nI_clamp, nI_toInt, nI_leL, nI_Lle, nI_ltL, nI_Llt, nI_eqL, nI_Leq, nI_leE, nI_ltE, nI_eqE, nI_eqM, nI_add, nI_addL, nI_Ladd, nI_mulL, nI_Lmul, pk_mul, pk_sub, nI_subL, nI_Lsub, i2l_nI, Int.toNat_natCast, Nat.not_lt_zero, Nat.zero_le, ifT, ifF, not_true_eq_false, not_false_eq_true, if_true, if_false, or_self, and_self, true_and, and_true, or_true, true_or, false_or, or_false, false_and, and_false]
    exact K
  | n + 1, f, F, hn, hF, hf, K => by
    have hd := dcN_lt hf 1
    have ih := l_sl h hq hx hw n (dec1 (r w) f) (upd F (12 * (7 * e + x) + w) (nI (dec1 (r w) f))) (by omega) upd_at hd (by rw [upd_upd, dcN_s]; exact K)
    obtain ⟨q1, q2, q3, q4, q5⟩ := hq
    obtain ⟨r1, r2, r3⟩ := q5 w hw
    have hr0 : ¬ nI (r w) = 0 := by rw [nI_eqL (by omega) (by decide)]; omega
    rw [r223_126]
    simp (disch := first | assumption | omega | decide | (simp only [List.length_cons, List.length_nil, Nat.reduceAdd, Nat.reduceLT]; done) | fail) only [r223_128, r223_131, r223_132, r223_135, r223_137, r223_138, r223_141, r223_143, r223_144, r223_146, r223_147, r223_148, r223_149, r223_152, r223_153, r223_156, r223_151, nI_rem, mh_o h, gm_10, WPo_some, List.getElem?_cons_succ, List.getElem?_cons_zero, kil_n, kil_i, kil_a, kil_u, kil_l, Option.toList_some, Option.toList_none, List.cons_append, List.nil_append, List.set_cons_succ, List.set_cons_zero, addm1, Nat.reduceAdd, List.length_cons, List.length_nil, Nat.reduceLT, gI, pI, hm_10 h, sm_10 h, iu_at, iu_ne, hF, nI_clamp, nI_toInt, nI_leL, nI_Lle, nI_ltL, nI_Llt, nI_eqL, nI_Leq, nI_leE, nI_ltE, nI_eqE, nI_eqM, nI_add, nI_addL, nI_Ladd, nI_mulL, nI_Lmul, pk_mul, pk_sub, nI_subL, nI_Lsub, i2l_nI, Int.toNat_natCast, Nat.not_lt_zero, Nat.zero_le, ifT, ifF, not_true_eq_false, not_false_eq_true, if_true, if_false, or_self, and_self, true_and, and_true, or_true, true_or, false_or, or_false, false_and, and_false, Nat.add_sub_cancel, dec1_m, iu_iu, iu_c]
    exact ih
theorem slp_end {fg : Nat → Nat → Nat} {x : Nat} (hF : EF F e axx whh r (slp r cnt fg x whh)) : EF F e axx whh r (slp r cnt fg (x + 1) 0) := by
  intro y u hy hu
  have := hF y u hy hu
  have e1 : slp r cnt fg x whh y u = slp r cnt fg (x + 1) 0 y u := by
    unfold slp
    by_cases z : y < x ∨ (y = x ∧ u < whh)
    · rw [if_pos z, if_pos (by omega)]
    · rw [if_neg z, if_neg (by omega)]
  rw [← e1]
  exact this
theorem l_sw (h : MO E ah m ma) (hq : EQ ai e axx whh r) (hc : MC E c ah m ma v ai al e t axx whh tr cnt) {x : Nat} (hx : x + 1 < axx) {fg : Nat → Nat → Nat} : ∀ z w F l6 l7 l8, w + z = whh → EF F e axx whh r (slp r cnt fg x w) → ∃ F' l6' l7' l8', EF F' e axx whh r (slp r cnt fg (x + 1) 0) ∧ same84 F F' e ∧ ∀ Q, WP E (c + 1) 223 165 [some (.ref m), some (.int (nI e)), some (.int (nI t)), some (.int tr), some (.int (nI x)), some (.int (nI whh)), l6', l7', l8'] [] (mh E ah m ma v (iu (iu ai 10 F') 17 Z) al) Q → WP E (c + 1) 223 77 [some (.ref m), some (.int (nI e)), some (.int (nI t)), some (.int tr), some (.int (nI x)), some (.int (nI w)), l6, l7, l8] [] (mh E ah m ma v (iu (iu ai 10 F) 17 Z) al) Q
  | 0, w, F, l6, l7, l8, hz, hF => by
    obtain ⟨q1, q2, q3, q4, q5⟩ := hq
    have hw : w = whh := by omega
    subst hw
    refine ⟨F, l6, l7, l8, slp_end hF, fun p hp => rfl, fun Q K => ?_⟩
    rw [r223_77]
    simp (disch := first | assumption | omega | decide | (simp only [List.length_cons, List.length_nil, Nat.reduceAdd, Nat.reduceLT]; done) | fail) only [r223_79, r223_80, r223_83, r223_84, r223_85, mh_o h, gm_7, WPo_some, List.getElem?_cons_succ, List.getElem?_cons_zero, kil_n, kil_i, kil_a, kil_u, kil_l, Option.toList_some, Option.toList_none, List.cons_append, List.nil_append, List.set_cons_succ, List.set_cons_zero, addm1, Nat.reduceAdd, List.length_cons, List.length_nil, Nat.reduceLT, gI, hm_7 h, iu_ne, q4, nI_clamp, nI_toInt, nI_leL, nI_Lle, nI_ltL, nI_Llt, nI_eqL, nI_Leq, nI_leE, nI_ltE, nI_eqE, nI_eqM, nI_add, nI_addL, nI_Ladd, nI_mulL, nI_Lmul, pk_mul, pk_sub, nI_subL, nI_Lsub, i2l_nI, Int.toNat_natCast, Nat.not_lt_zero, Nat.zero_le, ifT, ifF, not_true_eq_false, not_false_eq_true, if_true, if_false, or_self, and_self, true_and, and_true, or_true, true_or, false_or, or_false, false_and, and_false]
    exact K
  | z + 1, w, F, l6, l7, l8, hz, hF => by
    have hq' := hq
    obtain ⟨q1, q2, q3, q4, q5⟩ := hq
    have hw : w < whh := by omega
    obtain ⟨r1, r2, r3⟩ := q5 w hw
    obtain ⟨f1, f2⟩ := hF x w (by omega) hw
    have e0 : slp r cnt fg x w x w = fg x w := if_neg (by omega)
    rw [e0] at f1 f2
    have cb := hc.1 x w 0
    have hF2 : EF (upd F (12 * (7 * e + x) + w) (nI (dcN (r w) (cnt x w 0) (fg x w)))) e axx whh r (slp r cnt fg x (w + 1)) := by
      intro y u hy hu
      have g := hF y u hy hu
      unfold slp at g ⊢
      by_cases e1 : y = x ∧ u = w
      · obtain ⟨rfl, rfl⟩ := e1
        rw [upd_at, if_pos (by omega)]
        exact ⟨rfl, dcN_lt f2 _⟩
      · rw [upd_ne (by omega)]
        by_cases e2 : y < x ∨ (y = x ∧ u < w)
        · rw [if_pos e2] at g
          rw [if_pos (by omega)]
          exact g
        · rw [if_neg e2] at g
          rw [if_neg (by omega)]
          exact g
    obtain ⟨F', l6', l7', l8', g1, g2, g3⟩ := l_sw h hq' hc hx z (w + 1) _ (some (.int (nI (r w)))) (some (.int (nI (12 * (7 * e + x) + w)))) (some (.int (nI 0))) (by omega) hF2
    refine ⟨F', l6', l7', l8', g1, s84_tr (fun p hp => upd_ne (by omega)) g2, fun Q K => ?_⟩
    have K2 := g3 Q K
    rw [r223_77]
    simp (disch := first | assumption | omega | decide | (simp only [List.length_cons, List.length_nil, Nat.reduceAdd, Nat.reduceLT]; done) | fail) only [r223_79, r223_80, r223_83, r223_84, r223_85, r223_88, r223_89, r223_92, r223_94, r223_95, r223_96, r223_98, r223_99, r223_100, r223_102, r223_103, r223_105, r223_110, r223_112, r223_113, r223_114, r223_115, r223_117, r223_119, r223_120, r223_124, q223_107 m_cell, q223_121 (hc.2 _ _ x w 0 0 rfl hx hw (by decide)) h.ci, mh_o h, gm_7, gm_9, WPo_some, List.getElem?_cons_succ, List.getElem?_cons_zero, kil_n, kil_i, kil_a, kil_u, kil_l, Option.toList_some, Option.toList_none, List.cons_append, List.nil_append, List.set_cons_succ, List.set_cons_zero, addm1, Nat.reduceAdd, List.length_cons, List.length_nil, Nat.reduceLT, gI, hm_7 h, hm_9 h, iu_ne, q4, r1, nI_clamp, nI_toInt, nI_leL, nI_Lle, nI_ltL, nI_Llt, nI_eqL, nI_Leq, nI_leE, nI_ltE, nI_eqE, nI_eqM, nI_add, nI_addL, nI_Ladd, nI_mulL, nI_Lmul, pk_mul, pk_sub, nI_subL, nI_Lsub, i2l_nI, Int.toNat_natCast, Nat.not_lt_zero, Nat.zero_le, ifT, ifF, not_true_eq_false, not_false_eq_true, if_true, if_false, or_self, and_self, true_and, and_true, or_true, true_or, false_or, or_false, false_and, and_false]
    refine l_sl h hq' (by omega) hw _ _ _ cb f1 f2 ?_
    simp (disch := first | assumption | omega | decide | (simp only [List.length_cons, List.length_nil, Nat.reduceAdd, Nat.reduceLT]; done) | fail) only [r223_159, r223_162, WPo_some, List.getElem?_cons_succ, List.getElem?_cons_zero, kil_n, kil_i, kil_a, kil_u, kil_l, Option.toList_some, Option.toList_none, List.cons_append, List.nil_append, List.set_cons_succ, List.set_cons_zero, addm1, Nat.reduceAdd, List.length_cons, List.length_nil, Nat.reduceLT, nI_clamp, nI_toInt, nI_leL, nI_Lle, nI_ltL, nI_Llt, nI_eqL, nI_Leq, nI_leE, nI_ltE, nI_eqE, nI_eqM, nI_add, nI_addL, nI_Ladd, nI_mulL, nI_Lmul, pk_mul, pk_sub, nI_subL, nI_Lsub, i2l_nI, Int.toNat_natCast, Nat.not_lt_zero, Nat.zero_le, ifT, ifF, not_true_eq_false, not_false_eq_true, if_true, if_false, or_self, and_self, true_and, and_true, or_true, true_or, false_or, or_false, false_and, and_false]
    exact K2
theorem l_sx (h : MO E ah m ma) (hq : EQ ai e axx whh r) (hc : MC E c ah m ma v ai al e t axx whh tr cnt) {fg : Nat → Nat → Nat} : ∀ z x F l5 l6 l7 l8, x + z + 1 = axx → EF F e axx whh r (slp r cnt fg x 0) → ∃ F', EF F' e axx whh r (slp r cnt fg (axx - 1) 0) ∧ same84 F F' e ∧ WP E (c + 1) 223 61 [some (.ref m), some (.int (nI e)), some (.int (nI t)), some (.int tr), some (.int (nI x)), l5, l6, l7, l8] [] (mh E ah m ma v (iu (iu ai 10 F) 17 Z) al) (fun r1 x1 => r1 = none ∧ x1 = mh E ah m ma v (iu (iu ai 10 F') 17 Z) al)
  | 0, x, F, l5, l6, l7, l8, hz, hF => by
    obtain ⟨q1, q2, q3, q4, q5⟩ := hq
    refine ⟨F, by rw [show axx - 1 = x by omega]; exact hF, fun p hp => rfl, ?_⟩
    rw [r223_61]
    simp (disch := first | assumption | omega | decide | (simp only [List.length_cons, List.length_nil, Nat.reduceAdd, Nat.reduceLT]; done) | fail) only [r223_63, r223_64, r223_67, r223_68, r223_69, r223_70, r223_71, r223_171, mh_o h, gm_6, WPo_some, List.getElem?_cons_succ, List.getElem?_cons_zero, kil_n, kil_i, kil_a, kil_u, kil_l, Option.toList_some, Option.toList_none, List.cons_append, List.nil_append, List.set_cons_succ, List.set_cons_zero, addm1, Nat.reduceAdd, List.length_cons, List.length_nil, Nat.reduceLT, gI, hm_6 h, iu_ne, q3, nI_clamp, nI_toInt, nI_leL, nI_Lle, nI_ltL, nI_Llt, nI_eqL, nI_Leq, nI_leE, nI_ltE, nI_eqE, nI_eqM, nI_add, nI_addL, nI_Ladd, nI_mulL, nI_Lmul, pk_mul, pk_sub, nI_subL, nI_Lsub, i2l_nI, Int.toNat_natCast, Nat.not_lt_zero, Nat.zero_le, ifT, ifF, not_true_eq_false, not_false_eq_true, if_true, if_false, or_self, and_self, true_and, and_true, or_true, true_or, false_or, or_false, false_and, and_false]
  | z + 1, x, F, l5, l6, l7, l8, hz, hF => by
    obtain ⟨F1, l6', l7', l8', g1, g2, g3⟩ := l_sw (Z := Z) h hq hc (show x + 1 < axx by omega) whh 0 F l6 l7 l8 (by omega) hF
    obtain ⟨F2, k1, k2, k3⟩ := l_sx h hq hc z (x + 1) F1 (some (.int (nI whh))) l6' l7' l8' (by omega) g1
    obtain ⟨q1, q2, q3, q4, q5⟩ := hq
    refine ⟨F2, k1, s84_tr g2 k2, ?_⟩
    rw [r223_61]
    simp (disch := first | assumption | omega | decide | (simp only [List.length_cons, List.length_nil, Nat.reduceAdd, Nat.reduceLT]; done) | fail) only [r223_63, r223_64, r223_67, r223_68, r223_69, r223_70, r223_71, r223_74, r223_75, mh_o h, gm_6, WPo_some, List.getElem?_cons_succ, List.getElem?_cons_zero, kil_n, kil_i, kil_a, kil_u, kil_l, Option.toList_some, Option.toList_none, List.cons_append, List.nil_append, List.set_cons_succ, List.set_cons_zero, addm1, Nat.reduceAdd, List.length_cons, List.length_nil, Nat.reduceLT, gI, hm_6 h, iu_ne, q3, nI_clamp, nI_toInt, nI_leL, nI_Lle, nI_ltL, nI_Llt, nI_eqL, nI_Leq, nI_leE, nI_ltE, nI_eqE, nI_eqM, nI_add, nI_addL, nI_Ladd, nI_mulL, nI_Lmul, pk_mul, pk_sub, nI_subL, nI_Lsub, i2l_nI, Int.toNat_natCast, Nat.not_lt_zero, Nat.zero_le, ifT, ifF, not_true_eq_false, not_false_eq_true, if_true, if_false, or_self, and_self, true_and, and_true, or_true, true_or, false_or, or_false, false_and, and_false]
    apply g3
    simp (disch := first | assumption | omega | decide | (simp only [List.length_cons, List.length_nil, Nat.reduceAdd, Nat.reduceLT]; done) | fail) only [r223_165, r223_168, WPo_some, List.getElem?_cons_succ, List.getElem?_cons_zero, kil_n, kil_i, kil_a, kil_u, kil_l, Option.toList_some, Option.toList_none, List.cons_append, List.nil_append, List.set_cons_succ, List.set_cons_zero, addm1, Nat.reduceAdd, List.length_cons, List.length_nil, Nat.reduceLT, nI_clamp, nI_toInt, nI_leL, nI_Lle, nI_ltL, nI_Llt, nI_eqL, nI_Leq, nI_leE, nI_ltE, nI_eqE, nI_eqM, nI_add, nI_addL, nI_Ladd, nI_mulL, nI_Lmul, pk_mul, pk_sub, nI_subL, nI_Lsub, i2l_nI, Int.toNat_natCast, Nat.not_lt_zero, Nat.zero_le, ifT, ifF, not_true_eq_false, not_false_eq_true, if_true, if_false, or_self, and_self, true_and, and_true, or_true, true_or, false_or, or_false, false_and, and_false]
    exact k3
theorem m_turnOne (h : MO E ah m ma) (hq : EQ ai e axx whh r) (hc : MC E c ah m ma v ai al e t axx whh tr cnt) (h0 : ∀ w, cnt (axx - 1) w 0 = 0) {fg : Nat → Nat → Nat} (hF : EF (ai 10) e axx whh r fg) : ∃ F' Z', EF F' e axx whh r (trnG axx r cnt fg) ∧ same84 (ai 10) F' e ∧ EV E (c + 2) 223 [.ref m, .int (nI e), .int (nI t), .int tr] (mh E ah m ma v ai al) none (mh E ah m ma v (iu (iu ai 10 F') 17 Z') al) := by
  have b := hq.2.1
  obtain ⟨F1, Z1, l4, a1, a2, a3⟩ := l_mE (l5 := none) (l6 := none) (l7 := none) (l8 := none) h hq hc 4 0 (ai 10) (ai 17) fg (by omega) (by omega) hF
  obtain ⟨F2, Z2, l4', b1, b2, b3⟩ := l_mO (l5 := none) (l6 := none) (l7 := none) (l8 := none) h hq hc 4 1 F1 Z1 _ (by omega) (by omega) a1
  have b1' : EF F2 e axx whh r (slp r cnt (adS axx r (fun x w => decide (0 < cnt x w 2)) (fun x w => decide (0 < cnt x w 1)) 4 1 (adS axx r (fun x w => decide (0 < cnt x w 2)) (fun x w => decide (0 < cnt x w 1)) 4 0 fg)) 0 0) := by
    intro y u hy hu
    unfold slp
    rw [if_neg (by omega)]
    exact b1 y u hy hu
  obtain ⟨F3, c1, c2, c3⟩ := l_sx (c := c + 1) (Z := Z2) h hq (MC_up hc) (axx - 1) 0 F2 none none none none (by omega) b1'
  refine ⟨F3, Z2, ?_, s84_tr a2 (s84_tr b2 c2), e223 ?_⟩
  · intro y u hy hu
    have := c1 y u hy hu
    have e1 : slp r cnt (adS axx r (fun x w => decide (0 < cnt x w 2)) (fun x w => decide (0 < cnt x w 1)) 4 1 (adS axx r (fun x w => decide (0 < cnt x w 2)) (fun x w => decide (0 < cnt x w 1)) 4 0 fg)) (axx - 1) 0 y u = trnG axx r cnt fg y u := by
      unfold slp trnG
      by_cases z : y < axx - 1
      · rw [if_pos (by omega)]
      · rw [if_neg (by omega), show y = axx - 1 by omega, h0 u, dcN]
    rw [← e1]
    exact this
  · rw [iu_self, iu_self] at a3
    simp only [r223_0, r223_1, kil_i, WPo_some, List.getElem?_cons_succ, List.getElem?_cons_zero, kil_n, kil_i, kil_a, kil_u, kil_l, Option.toList_some, Option.toList_none, List.cons_append, List.nil_append, List.set_cons_succ, List.set_cons_zero, addm1, Nat.reduceAdd, List.length_cons, List.length_nil, Nat.reduceLT]
    apply a3
    simp only [r223_29, r223_30, kil_i, WPo_some, List.getElem?_cons_succ, List.getElem?_cons_zero, kil_n, kil_i, kil_a, kil_u, kil_l, Option.toList_some, Option.toList_none, List.cons_append, List.nil_append, List.set_cons_succ, List.set_cons_zero, addm1, Nat.reduceAdd, List.length_cons, List.length_nil, Nat.reduceLT]
    apply b3
    simp only [r223_58, r223_59, kil_i, WPo_some, List.getElem?_cons_succ, List.getElem?_cons_zero, kil_n, kil_i, kil_a, kil_u, kil_l, Option.toList_some, Option.toList_none, List.cons_append, List.nil_append, List.set_cons_succ, List.set_cons_zero, addm1, Nat.reduceAdd, List.length_cons, List.length_nil, Nat.reduceLT]
    exact c3
end TUM2

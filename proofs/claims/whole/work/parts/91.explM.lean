/-! The model shows a try -/
noncomputable def gS (ax : Nat) (r : Nat → Nat) (cq : Nat → Nat → Nat → Nat → Nat) (fg : Nat → Nat → Nat) : Nat → Nat → Nat → Nat
  | 0 => fg
  | i + 1 => trnG ax r (cq (i + 1)) (gS ax r cq fg i)
noncomputable def okS (ax wh : Nat) (r : Nat → Nat) (cq : Nat → Nat → Nat → Nat → Nat) (fg : Nat → Nat → Nat) (s : Int32) (N : Nat → Int64) (i : Nat) : Prop := cutF s (lN (NN r wh (gS ax r cq fg (i + 1)) 0)) = N i
noncomputable def shw (ax wh : Nat) (r : Nat → Nat) (cq : Nat → Nat → Nat → Nat → Nat) (fg : Nat → Nat → Nat) (s : Int32) (N : Nat → Int64) (R : Nat) : Prop := ∀ i, i < R → okS ax wh r cq fg s N i
noncomputable def bC (p : Prop) : Int32 := @b2i p (Classical.propDecidable p)
theorem bC_t {p : Prop} (h : p) : bC p = 1 := if_pos h
theorem bC_f {p : Prop} (h : ¬ p) : bC p = 0 := if_neg h
section EXM
variable {E : aEnv} {c m : Nat} {ah : aHp} {ma : Nat → Nat} {v : Nat → Value} {ai : Nat → Nat → Int32} {al : Nat → Nat → Int64} {e axx whh : Nat} {r : Nat → Nat} {Q : Option Value → aHp → Prop}
theorem l_cp (h : MO E ah m ma) (he : e < 4) {l2 l5 : Option Value} {n3 : Int32} {C0 : Nat → Int32} (K : WP E c 228 35 [some (.ref m), some (.int (nI e)), l2, some (.int n3), some (.int (nI 84)), l5] [] (mh E ah m ma v (iu ai 11 (ovr C0 0 84 (fun p => ai 10 (84 * e + p)))) al) Q) : ∀ z i, i + z = 84 → WP E c 228 3 [some (.ref m), some (.int (nI e)), l2, some (.int n3), some (.int (nI i)), l5] [] (mh E ah m ma v (iu ai 11 (ovr C0 0 i (fun p => ai 10 (84 * e + p)))) al) Q
  | 0, i, hz => by
    rw [show i = 84 by omega, r228_3]
    simp (disch := first | assumption | omega | decide | (simp only [List.length_cons, List.length_nil, Nat.reduceAdd, Nat.reduceLT]; done) | fail) only [r228_5, r228_7, WPo_some, List.getElem?_cons_succ, List.getElem?_cons_zero, kil_n, kil_i, kil_a, kil_u, kil_l, Option.toList_some, Option.toList_none, List.cons_append, List.nil_append, List.set_cons_succ, List.set_cons_zero, addm1, Nat.reduceAdd, List.length_cons, List.length_nil, Nat.reduceLT, nI_clamp, nI_toInt, nI_leL, nI_Lle, nI_ltL, nI_Llt, nI_eqL, nI_Leq, nI_leE, nI_ltE, nI_eqE, nI_eqM, nI_add, nI_addL, nI_Ladd, nI_mulL, nI_Lmul, pk_mul, pk_sub, nI_subL, nI_Lsub, i2l_nI, Int.toNat_natCast, Nat.not_lt_zero, Nat.zero_le, ifT, ifF, not_true_eq_false, not_false_eq_true, if_true, if_false, or_self, and_self, true_and, and_true, or_true, true_or, false_or, or_false, false_and, and_false]
    exact K
  | z + 1, i, hz => by
    have ih := l_cp h he K z (i + 1) (by omega)
    have m4 := upd_ovr0 (F := C0) (i := i) (h := fun p => ai 10 (84 * e + p)) (x := ai 10 (84 * e + i)) rfl
    rw [r228_3]
    simp (disch := first | assumption | omega | decide | (simp only [List.length_cons, List.length_nil, Nat.reduceAdd, Nat.reduceLT]; done) | fail) only [r228_5, r228_7, r228_10, r228_11, r228_14, r228_16, r228_17, r228_20, r228_22, r228_23, r228_24, r228_26, r228_27, r228_28, r228_29, r228_32, mh_o h, gm_10, gm_11, WPo_some, List.getElem?_cons_succ, List.getElem?_cons_zero, kil_n, kil_i, kil_a, kil_u, kil_l, Option.toList_some, Option.toList_none, List.cons_append, List.nil_append, List.set_cons_succ, List.set_cons_zero, addm1, Nat.reduceAdd, List.length_cons, List.length_nil, Nat.reduceLT, gI, pI, hm_10 h, hm_11 h, sm_11 h, iu_at, iu_ne, iu_iu, nI_clamp, nI_toInt, nI_leL, nI_Lle, nI_ltL, nI_Llt, nI_eqL, nI_Leq, nI_leE, nI_ltE, nI_eqE, nI_eqM, nI_add, nI_addL, nI_Ladd, nI_mulL, nI_Lmul, pk_mul, pk_sub, nI_subL, nI_Lsub, i2l_nI, Int.toNat_natCast, Nat.not_lt_zero, Nat.zero_le, ifT, ifF, not_true_eq_false, not_false_eq_true, if_true, if_false, or_self, and_self, true_and, and_true, or_true, true_or, false_or, or_false, false_and, and_false, m4]
    exact ih
theorem l_rs (h : MO E ah m ma) (he : e < 4) {l2 l3 : Option Value} {x : Int32} (hx : x = 0 ∨ x = 1) {G : Nat → Int32} (hC : ∀ p, p < 84 → ai 11 p = G (84 * e + p)) : ∀ z i F, i + z = 84 → (∀ p, ¬ (84 * e + i ≤ p ∧ p < 84 * e + 84) → F p = G p) → WP E c 228 104 [some (.ref m), some (.int (nI e)), l2, l3, some (.int x), some (.int (nI i))] [] (mh E ah m ma v (iu ai 10 F) al) (fun r1 x1 => r1 = some (.int x) ∧ x1 = mh E ah m ma v (iu ai 10 G) al)
  | 0, i, F, hz, hF => by
    have e1 : F = G := by
      funext p
      exact hF p (by omega)
    rw [show i = 84 by omega, r228_104, e1]
    simp (disch := first | assumption | omega | decide | (simp only [List.length_cons, List.length_nil, Nat.reduceAdd, Nat.reduceLT]; done) | fail) only [r228_106, r228_108, r228_136, r228_138 hx, WPo_some, List.getElem?_cons_succ, List.getElem?_cons_zero, kil_n, kil_i, kil_a, kil_u, kil_l, Option.toList_some, Option.toList_none, List.cons_append, List.nil_append, List.set_cons_succ, List.set_cons_zero, addm1, Nat.reduceAdd, List.length_cons, List.length_nil, Nat.reduceLT, nI_clamp, nI_toInt, nI_leL, nI_Lle, nI_ltL, nI_Llt, nI_eqL, nI_Leq, nI_leE, nI_ltE, nI_eqE, nI_eqM, nI_add, nI_addL, nI_Ladd, nI_mulL, nI_Lmul, pk_mul, pk_sub, nI_subL, nI_Lsub, i2l_nI, Int.toNat_natCast, Nat.not_lt_zero, Nat.zero_le, ifT, ifF, not_true_eq_false, not_false_eq_true, if_true, if_false, or_self, and_self, true_and, and_true, or_true, true_or, false_or, or_false, false_and, and_false]
  | z + 1, i, F, hz, hF => by
    have ih := l_rs h he (l2 := l2) (l3 := l3) (x := x) hx hC z (i + 1) (upd F (84 * e + i) (G (84 * e + i))) (by omega) (fun p hp => by
      by_cases y : p = 84 * e + i
      · rw [y, upd_at]
      · rw [upd_ne y]
        exact hF p (by omega))
    have c1 := hC i (by omega)
    rw [r228_104]
    simp (disch := first | assumption | omega | decide | (simp only [List.length_cons, List.length_nil, Nat.reduceAdd, Nat.reduceLT]; done) | fail) only [r228_106, r228_108, r228_111, r228_112, r228_115, r228_117, r228_118, r228_119, r228_121, r228_122, r228_123, r228_126, r228_128, r228_129, r228_130, r228_133, mh_o h, gm_10, gm_11, WPo_some, List.getElem?_cons_succ, List.getElem?_cons_zero, kil_n, kil_i, kil_a, kil_u, kil_l, Option.toList_some, Option.toList_none, List.cons_append, List.nil_append, List.set_cons_succ, List.set_cons_zero, addm1, Nat.reduceAdd, List.length_cons, List.length_nil, Nat.reduceLT, gI, pI, hm_10 h, hm_11 h, sm_10 h, iu_at, iu_ne, iu_iu, nI_clamp, nI_toInt, nI_leL, nI_Lle, nI_ltL, nI_Llt, nI_eqL, nI_Leq, nI_leE, nI_ltE, nI_eqE, nI_eqM, nI_add, nI_addL, nI_Ladd, nI_mulL, nI_Lmul, pk_mul, pk_sub, nI_subL, nI_Lsub, i2l_nI, Int.toNat_natCast, Nat.not_lt_zero, Nat.zero_le, ifT, ifF, not_true_eq_false, not_false_eq_true, if_true, if_false, or_self, and_self, true_and, and_true, or_true, true_or, false_or, or_false, false_and, and_false, c1]
    exact ih
theorem l_sh (h : MO E ah m ma) {cq : Nat → Nat → Nat → Nat → Nat} (hc : ∀ ai al t, 1 ≤ t → t ≤ 60 → MC E c ah m ma v ai al e t axx whh 1 (cq t)) (h0 : ∀ t w, cq t (axx - 1) w 0 = 0) {j R : Nat} {sr : Nat → Int32} {mn : Nat → Nat} {tn : Nat → Nat → Int64} (hj : j < 4) (hne : ¬ sr j = -1) (hR : R ≤ mn j) (hR60 : R ≤ 60) {fg : Nat → Nat → Nat} : ∀ z i ai, i + z = R → EQ ai e axx whh r → TM ai al sr mn tn → EF (ai 10) e axx whh r (gS axx r cq fg i) → (∀ q, q < i → okS axx whh r cq fg (sr j) (tn j) q) → ∃ F' Z' l5, same84 (ai 10) F' e ∧ ∀ Q, WP E (c + 3) 228 101 [some (.ref m), some (.int (nI e)), some (.int (nI j)), some (.int (nI R)), some (.int (bC (shw axx whh r cq fg (sr j) (tn j) R))), l5] [] (mh E ah m ma v (iu (iu ai 10 F') 17 Z') al) Q → WP E (c + 3) 228 41 [some (.ref m), some (.int (nI e)), some (.int (nI j)), some (.int (nI R)), some (.int 1), some (.int (nI (i + 1)))] [] (mh E ah m ma v ai al) Q
  | 0, i, ai, hz, hq, hT, hF, hk => by
    refine ⟨ai 10, ai 17, some (.int (nI (i + 1))), fun p hp => rfl, fun Q K => ?_⟩
    have e1 : bC (shw axx whh r cq fg (sr j) (tn j) R) = 1 := bC_t (fun q hq => hk q (by omega))
    rw [e1, iu_self, iu_self] at K
    rw [r228_41]
    simp (disch := first | assumption | omega | decide | (simp only [List.length_cons, List.length_nil, Nat.reduceAdd, Nat.reduceLT]; done) | fail) only [r228_43, r228_44, WPo_some, List.getElem?_cons_succ, List.getElem?_cons_zero, kil_n, kil_i, kil_a, kil_u, kil_l, Option.toList_some, Option.toList_none, List.cons_append, List.nil_append, List.set_cons_succ, List.set_cons_zero, addm1, Nat.reduceAdd, List.length_cons, List.length_nil, Nat.reduceLT, nI_clamp, nI_toInt, nI_leL, nI_Lle, nI_ltL, nI_Llt, nI_eqL, nI_Leq, nI_leE, nI_ltE, nI_eqE, nI_eqM, nI_add, nI_addL, nI_Ladd, nI_mulL, nI_Lmul, pk_mul, pk_sub, nI_subL, nI_Lsub, i2l_nI, Int.toNat_natCast, Nat.not_lt_zero, Nat.zero_le, ifT, ifF, not_true_eq_false, not_false_eq_true, if_true, if_false, or_self, and_self, true_and, and_true, or_true, true_or, false_or, or_false, false_and, and_false]
    exact K
  | z + 1, i, ai, hz, hq, hT, hF, hk => by
    obtain ⟨F1, Z1, a1, a2, a3⟩ := m_turnOne (t := i + 1) h hq (hc ai al (i + 1) (by omega) (by omega)) (h0 _) hF
    have hq2 : EQ (iu (iu ai 10 F1) 17 Z1) e axx whh r := EQ_fr hq (fun k hk => by rw [iu_ne (by omega), iu_ne (by omega)])
    have hT2 : TM (iu (iu ai 10 F1) 17 Z1) al sr mn tn := TM_fr hT (fun k hk => by rw [iu_ne (by omega), iu_ne (by omega)]) rfl
    have hF2 : EF (iu (iu ai 10 F1) 17 Z1 10) e axx whh r (gS axx r cq fg (i + 1)) := by rw [iu_ne (by decide), iu_at]; exact a1
    have k1 := m_onAxis (c := c + 1) (v := v) (al := al) h hq2 hF2 (x := 0) (by have := hq.2.1; omega)
    rw [show nI 0 = 0 from rfl] at k1
    obtain ⟨m1, m2, m3⟩ := hT j hj
    rw [if_neg hne] at m2
    have k2 := m_numberOf (c := c + 2) (v := v) h hT2 hj (show i < mn j by omega)
    by_cases ok : okS axx whh r cq fg (sr j) (tn j) i
    · obtain ⟨F2, Z2, l5, b1, b2⟩ := l_sh h hc h0 hj hne hR hR60 z (i + 1) (iu (iu ai 10 F1) 17 Z1) (by omega) hq2 hT2 hF2 (fun q hq => by
        by_cases y : q = i
        · rw [y]; exact ok
        · exact hk q (by omega))
      rw [iu_ne (by decide), iu_at] at b1
      refine ⟨F2, Z2, l5, s84_tr a2 b1, fun Q K => ?_⟩
      have b3 := b2 Q (by rw [iu_c (by decide), iu_c (by decide)]; exact K)
      have ok' : (cutF (sr j) (lN (nmb r (gS axx r cq fg (i + 1) 0) whh)) = tn j i) = True := eq_true ok
      rw [r228_41]
      simp (disch := first | assumption | omega | decide | (simp only [List.length_cons, List.length_nil, Nat.reduceAdd, Nat.reduceLT]; done) | fail) only [r228_43, r228_44, r228_47, r228_49, r228_52, r228_53, r228_54, r228_56, r228_60, r228_61, r228_64, r228_65, r228_66, r228_67, r228_68, r228_75, r228_76, r228_77, r228_79, r228_80, r228_84, r228_85, r228_88, r228_89, r228_92, r228_93, r228_95, r228_98, q228_57 a3 h.ci, q228_69 k1 h.ci, q228_72 m_cutTo, q228_81 k2 h.ci, mh_o h, gm_2, WPo_some, List.getElem?_cons_succ, List.getElem?_cons_zero, kil_n, kil_i, kil_a, kil_u, kil_l, Option.toList_some, Option.toList_none, List.cons_append, List.nil_append, List.set_cons_succ, List.set_cons_zero, addm1, Nat.reduceAdd, List.length_cons, List.length_nil, Nat.reduceLT, gI, hm_2 h, iu_ne, m2.2.1, nI_clamp, nI_toInt, nI_leL, nI_Lle, nI_ltL, nI_Llt, nI_eqL, nI_Leq, nI_leE, nI_ltE, nI_eqE, nI_eqM, nI_add, nI_addL, nI_Ladd, nI_mulL, nI_Lmul, pk_mul, pk_sub, nI_subL, nI_Lsub, i2l_nI, Int.toNat_natCast, Nat.not_lt_zero, Nat.zero_le, ifT, ifF, not_true_eq_false, not_false_eq_true, if_true, if_false, or_self, and_self, true_and, and_true, or_true, true_or, false_or, or_false, false_and, and_false, Nat.add_sub_cancel, lg_cmp_eq, ok', show ¬ (1 : Int32) = 0 by decide]
      exact b3
    · refine ⟨F1, Z1, some (.int (nI (i + 2))), a2, fun Q K => ?_⟩
      have e1 : bC (shw axx whh r cq fg (sr j) (tn j) R) = 0 := bC_f (fun y => ok (y i (by omega)))
      rw [e1] at K
      have ok' : (cutF (sr j) (lN (nmb r (gS axx r cq fg (i + 1) 0) whh)) = tn j i) = False := eq_false ok
      rw [r228_41]
      simp (disch := first | assumption | omega | decide | (simp only [List.length_cons, List.length_nil, Nat.reduceAdd, Nat.reduceLT]; done) | fail) only [r228_43, r228_44, r228_47, r228_49, r228_52, r228_53, r228_54, r228_56, r228_60, r228_61, r228_64, r228_65, r228_66, r228_67, r228_68, r228_75, r228_76, r228_77, r228_79, r228_80, r228_84, r228_85, r228_88, r228_89, r228_92, r228_93, r228_95, r228_98, r228_41, q228_57 a3 h.ci, q228_69 k1 h.ci, q228_72 m_cutTo, q228_81 k2 h.ci, mh_o h, gm_2, WPo_some, List.getElem?_cons_succ, List.getElem?_cons_zero, kil_n, kil_i, kil_a, kil_u, kil_l, Option.toList_some, Option.toList_none, List.cons_append, List.nil_append, List.set_cons_succ, List.set_cons_zero, addm1, Nat.reduceAdd, List.length_cons, List.length_nil, Nat.reduceLT, gI, hm_2 h, iu_ne, m2.2.1, nI_clamp, nI_toInt, nI_leL, nI_Lle, nI_ltL, nI_Llt, nI_eqL, nI_Leq, nI_leE, nI_ltE, nI_eqE, nI_eqM, nI_add, nI_addL, nI_Ladd, nI_mulL, nI_Lmul, pk_mul, pk_sub, nI_subL, nI_Lsub, i2l_nI, Int.toNat_natCast, Nat.not_lt_zero, Nat.zero_le, ifT, ifF, not_true_eq_false, not_false_eq_true, if_true, if_false, or_self, and_self, true_and, and_true, or_true, true_or, false_or, or_false, false_and, and_false, Nat.add_sub_cancel, lg_cmp_eq, ok', ite_self, show ¬ (1 : Int32) = 0 by decide]
      exact K
theorem bC_or (p : Prop) : bC p = 0 ∨ bC p = 1 := by
  by_cases h : p
  · exact Or.inr (bC_t h)
  · exact Or.inl (bC_f h)
theorem m_shows (h : MO E ah m ma) {cq : Nat → Nat → Nat → Nat → Nat} (hc : ∀ ai al t, 1 ≤ t → t ≤ 60 → MC E c ah m ma v ai al e t axx whh 1 (cq t)) (h0 : ∀ t w, cq t (axx - 1) w 0 = 0) {j R : Nat} {sr : Nat → Int32} {mn : Nat → Nat} {tn : Nat → Nat → Int64} (hj : j < 4) (hne : ¬ sr j = -1) (hR : R ≤ mn j) (hR60 : R ≤ 60) {fg : Nat → Nat → Nat} (hq : EQ ai e axx whh r) (hT : TM ai al sr mn tn) (hF : EF (ai 10) e axx whh r fg) : ∃ C Z, EV E (c + 3) 228 [.ref m, .int (nI e), .int (nI j), .int (nI R)] (mh E ah m ma v ai al) (some (.int (bC (shw axx whh r cq fg (sr j) (tn j) R)))) (mh E ah m ma v (iu (iu ai 11 C) 17 Z) al) := by
  have he := hq.1
  obtain ⟨C, hC⟩ : ∃ C, C = ovr (ai 11) 0 84 (fun p => ai 10 (84 * e + p)) := ⟨_, rfl⟩
  have cC : ∀ p, p < 84 → C p = ai 10 (84 * e + p) := fun p hp => by rw [hC, ovr0_in hp]
  obtain ⟨F', Z', l5, b1, b2⟩ := l_sh (c := c) h hc h0 hj hne hR hR60 R 0 (iu ai 11 C) (by omega) (EQ_fr hq (fun k hk => iu_ne (by omega))) (TM_fr hT (fun k hk => iu_ne (by omega)) rfl) (fg := fg) (by rw [iu_ne (by decide)]; exact hF) (fun q hq => absurd hq (by omega))
  rw [iu_ne (by decide)] at b1
  refine ⟨C, Z', e228 ?_⟩
  have e9 : iu (iu (iu ai 11 C) 10 F') 17 Z' = iu (iu (iu ai 11 C) 17 Z') 10 F' := by
    funext q
    unfold iu
    by_cases y : q = 10
    · subst y; simp
    · by_cases y2 : q = 17
      · subst y2; simp
      · simp [y, y2]
  have e8 : iu (iu (iu ai 11 C) 17 Z') 10 (ai 10) = iu (iu ai 11 C) 17 Z' := iu_same (by rw [iu_ne (by decide), iu_ne (by decide)])
  have rs := l_rs (c := c + 3) (v := v) (ai := iu (iu ai 11 C) 17 Z') (al := al) (e := e) h he (l2 := some (.int (nI j))) (l3 := some (.int (nI R))) (bC_or (shw axx whh r cq fg (sr j) (tn j) R)) (G := ai 10) (fun p hp => by rw [iu_ne (by decide), iu_at]; exact cC p hp) 84 0 F' (by omega) (fun p hp => b1 p (by omega))
  rw [e8, ← e9] at rs
  have b3 := b2 (fun r1 x1 => r1 = some (.int (bC (shw axx whh r cq fg (sr j) (tn j) R))) ∧ x1 = mh E ah m ma v (iu (iu ai 11 C) 17 Z') al) (by
    simp (disch := first | assumption | omega | decide | (simp only [List.length_cons, List.length_nil, Nat.reduceAdd, Nat.reduceLT]; done) | fail) only [r228_101, r228_102, WPo_some, List.getElem?_cons_succ, List.getElem?_cons_zero, kil_n, kil_i, kil_a, kil_u, kil_l, Option.toList_some, Option.toList_none, List.cons_append, List.nil_append, List.set_cons_succ, List.set_cons_zero, addm1, Nat.reduceAdd, List.length_cons, List.length_nil, Nat.reduceLT]
    exact rs)
  have lc := l_cp (c := c + 3) (v := v) (ai := ai) (al := al) (Q := fun r1 x1 => r1 = some (.int (bC (shw axx whh r cq fg (sr j) (tn j) R))) ∧ x1 = mh E ah m ma v (iu (iu ai 11 C) 17 Z') al) h he (l2 := some (.int (nI j))) (n3 := nI R) (l5 := none) (C0 := ai 11) (by
    rw [← hC]
    simp (disch := first | assumption | omega | decide | (simp only [List.length_cons, List.length_nil, Nat.reduceAdd, Nat.reduceLT]; done) | fail) only [r228_35, r228_36, r228_38, r228_39, WPo_some, List.getElem?_cons_succ, List.getElem?_cons_zero, kil_n, kil_i, kil_a, kil_u, kil_l, Option.toList_some, Option.toList_none, List.cons_append, List.nil_append, List.set_cons_succ, List.set_cons_zero, addm1, Nat.reduceAdd, List.length_cons, List.length_nil, Nat.reduceLT]
    exact b3) 84 0 (by omega)
  rw [ovr_0, iu_self] at lc
  simp (disch := first | assumption | omega | decide | (simp only [List.length_cons, List.length_nil, Nat.reduceAdd, Nat.reduceLT]; done) | fail) only [r228_0, r228_1, WPo_some, List.getElem?_cons_succ, List.getElem?_cons_zero, kil_n, kil_i, kil_a, kil_u, kil_l, Option.toList_some, Option.toList_none, List.cons_append, List.nil_append, List.set_cons_succ, List.set_cons_zero, addm1, Nat.reduceAdd, List.length_cons, List.length_nil, Nat.reduceLT]
  exact lc
end EXM

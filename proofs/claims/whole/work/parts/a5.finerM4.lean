/-! The model's finer table: whether so many figures are enough -/
section IE
variable {E : aEnv} {c m : Nat} {ah : aHp} {ma : Nat → Nat} {v : Nat → Value} {ai : Nat → Nat → Int32} {al : Nat → Nat → Int64} {M k : Nat}
theorem m_atP (h : MO E ah m ma) (hM : 2 ≤ M ∧ M ≤ 20) (hk : k ≤ 4) (hk1 : 1 ≤ k) {D : Nat → Int64} {i : Nat} (hi : i < 2 ^ 31) : EV E c 233 [.ref m, .int (nI k), .int (nI M), .int (nI i)] (mh E ah m ma v ai (lu al 26 D)) (some (.long (svP (al 96) (lN M) k (lN i)))) (mh E ah m ma v ai (lu al 26 D)) := by
  have a := m_atPart (E := E) (c := c) (v := v) (ai := ai) (al := lu al 26 D) h hM hk hk1 (i := nI i)
  rw [nI_l hi, lu_ne (by decide), ap_sv hk hk1] at a
  exact a
theorem l_ieA (h : MO E ah m ma) (hM : 2 ≤ M ∧ M ≤ 20) (hk : k ≤ 4) (hk1 : 1 ≤ k) {a3 : Option Value} {a4 a7 : Int64} {d : Int32} {N0 : Nat → Int64} {Q : Option Value → aHp → Prop} (K : WP E (c + 1) 235 37 [some (.ref m), some (.int (nI k)), some (.int (nI M)), a3, some (.long a4), none, some (.int d), some (.long a7), none, some (.int (nI (k + 1))), none, none] [] (mh E ah m ma v ai (lu al 26 (ovr N0 0 (k + 1) (fun i => svP (al 96) (lN M) k (lN i))))) Q) : ∀ z i, i + z = k + 1 → WP E (c + 1) 235 10 [some (.ref m), some (.int (nI k)), some (.int (nI M)), a3, some (.long a4), none, some (.int d), some (.long a7), none, some (.int (nI i)), none, none] [] (mh E ah m ma v ai (lu al 26 (ovr N0 0 i (fun i => svP (al 96) (lN M) k (lN i))))) Q
  | 0, i, hz => by
    rw [show i = k + 1 by omega, r235_10]
    simp (disch := first | assumption | omega | decide | (simp only [List.length_cons, List.length_nil, Nat.reduceAdd, Nat.reduceLT]; done) | fail) only [r235_12, r235_13, WPo_some, List.getElem?_cons_succ, List.getElem?_cons_zero, kil_n, kil_i, kil_a, kil_u, kil_l, Option.toList_some, Option.toList_none, List.cons_append, List.nil_append, List.set_cons_succ, List.set_cons_zero, addm1, Nat.reduceAdd, List.length_cons, List.length_nil, Nat.reduceLT, nI_clamp, nI_toInt, nI_leL, nI_Lle, nI_ltL, nI_Llt, nI_eqL, nI_Leq, nI_leE, nI_ltE, nI_eqE, nI_eqM, nI_add, nI_addL, nI_Ladd, nI_mulL, nI_Lmul, pk_mul, pk_sub, nI_subL, nI_Lsub, i2l_nI, Int.toNat_natCast, Nat.not_lt_zero, Nat.zero_le, ifT, ifF, not_true_eq_false, not_false_eq_true, if_true, if_false, or_self, and_self, true_and, and_true, or_true, true_or, false_or, or_false, false_and, and_false]
    exact K
  | z + 1, i, hz => by
    have ih := l_ieA h hM hk hk1 K z (i + 1) (by omega)
    have m2 := vupd_ovr (F := N0) (i := i) (h := fun i => svP (al 96) (lN M) k (lN i)) (x := svP (al 96) (lN M) k (lN i)) rfl
    rw [r235_10]
    simp (disch := first | assumption | omega | decide | (simp only [List.length_cons, List.length_nil, Nat.reduceAdd, Nat.reduceLT]; done) | fail) only [r235_12, r235_13, r235_16, r235_17, r235_20, r235_22, r235_23, r235_24, r235_25, r235_30, r235_31, r235_34, q235_27 (m_atP h hM hk hk1 (show i < 2 ^ 31 by omega)) h.ci, mh_o h, gm_26, WPo_some, List.getElem?_cons_succ, List.getElem?_cons_zero, kil_n, kil_i, kil_a, kil_u, kil_l, Option.toList_some, Option.toList_none, List.cons_append, List.nil_append, List.set_cons_succ, List.set_cons_zero, addm1, Nat.reduceAdd, List.length_cons, List.length_nil, Nat.reduceLT, nI_clamp, nI_toInt, nI_leL, nI_Lle, nI_ltL, nI_Llt, nI_eqL, nI_Leq, nI_leE, nI_ltE, nI_eqE, nI_eqM, nI_add, nI_addL, nI_Ladd, nI_mulL, nI_Lmul, pk_mul, pk_sub, nI_subL, nI_Lsub, i2l_nI, Int.toNat_natCast, Nat.not_lt_zero, Nat.zero_le, ifT, ifF, not_true_eq_false, not_false_eq_true, if_true, if_false, or_self, and_self, true_and, and_true, or_true, true_or, false_or, or_false, false_and, and_false, pL, hm_26 h, sm_26 h, lu_at, lu_lu, m2]
    exact ih
theorem l_ieC (h : MO E ah m ma) (hk : k ≤ 4) {u : Nat} (hu : 0 < u) (hu2 : u ≤ 1000000000000) {a2 a3 : Option Value} {b : Int64} {d : Int32} {D : Nat → Int64} {Q : Option Value → aHp → Prop} (K : ∀ l10, WP E (c + 2) 235 107 [some (.ref m), some (.int (nI k)), a2, a3, some (.long (lN u)), none, some (.int d), some (.long b), none, some (.int (nI (k + 1))), l10, none] [] (mh E ah m ma v ai (lu al 26 (ovr D 0 (k + 1) (rmD D (lN u) b)))) Q) : ∀ z i l10, i + z = k + 1 → WP E (c + 2) 235 47 [some (.ref m), some (.int (nI k)), a2, a3, some (.long (lN u)), none, some (.int d), some (.long b), none, some (.int (nI i)), l10, none] [] (mh E ah m ma v ai (lu al 26 (ovr D 0 i (rmD D (lN u) b)))) Q
  | 0, i, l10, hz => by
    have K := K l10
    rw [show i = k + 1 by omega, r235_47]
    simp (disch := first | assumption | omega | decide | (simp only [List.length_cons, List.length_nil, Nat.reduceAdd, Nat.reduceLT]; done) | fail) only [r235_49, r235_50, WPo_some, List.getElem?_cons_succ, List.getElem?_cons_zero, kil_n, kil_i, kil_a, kil_u, kil_l, Option.toList_some, Option.toList_none, List.cons_append, List.nil_append, List.set_cons_succ, List.set_cons_zero, addm1, Nat.reduceAdd, List.length_cons, List.length_nil, Nat.reduceLT, nI_clamp, nI_toInt, nI_leL, nI_Lle, nI_ltL, nI_Llt, nI_eqL, nI_Leq, nI_leE, nI_ltE, nI_eqE, nI_eqM, nI_add, nI_addL, nI_Ladd, nI_mulL, nI_Lmul, pk_mul, pk_sub, nI_subL, nI_Lsub, i2l_nI, Int.toNat_natCast, Nat.not_lt_zero, Nat.zero_le, ifT, ifF, not_true_eq_false, not_false_eq_true, if_true, if_false, or_self, and_self, true_and, and_true, or_true, true_or, false_or, or_false, false_and, and_false]
    exact K
  | z + 1, i, l10, hz => by
    have ih := fun l => l_ieC h hk hu hu2 K z (i + 1) l (by omega)
    have u1 : (lN u).toInt = u := lN_toInt63 (by omega)
    have f1 := c_floorDiv (E := E) (c := c + 1) (ah := mh E ah m ma v ai (lu al 26 (ovr D 0 i (rmD D (lN u) b)))) (x := D i) (y := lN u) (by rw [u1]; omega)
    have g1 : ovr D 0 i (rmD D (lN u) b) i = D i := ovr_out (Or.inr (by omega))
    have m2 := vupd_ovr (F := D) (i := i) (h := rmD D (lN u) b) (x := rmD D (lN u) b i) rfl
    have m3 : iL ((D i).toInt / (lN u).toInt) * b + nrL ((D i - iL ((D i).toInt / (lN u).toInt) * lN u) * b) (lN u) = rmD D (lN u) b i := rfl
    rw [r235_47]
    simp (disch := first | assumption | omega | decide | (simp only [List.length_cons, List.length_nil, Nat.reduceAdd, Nat.reduceLT]; done) | fail) only [r235_49, r235_50, r235_53, r235_54, r235_57, r235_59, r235_60, r235_65, r235_67, r235_68, r235_71, r235_73, r235_75, r235_77, r235_78, r235_79, r235_82, r235_84, r235_85, r235_87, r235_89, r235_90, r235_91, r235_93, r235_94, r235_99, r235_100, r235_101, r235_104, q235_62 f1, q235_96 (m_near hu hu2), mh_o h, gm_26, WPo_some, List.getElem?_cons_succ, List.getElem?_cons_zero, kil_n, kil_i, kil_a, kil_u, kil_l, Option.toList_some, Option.toList_none, List.cons_append, List.nil_append, List.set_cons_succ, List.set_cons_zero, addm1, Nat.reduceAdd, List.length_cons, List.length_nil, Nat.reduceLT, nI_clamp, nI_toInt, nI_leL, nI_Lle, nI_ltL, nI_Llt, nI_eqL, nI_Leq, nI_leE, nI_ltE, nI_eqE, nI_eqM, nI_add, nI_addL, nI_Ladd, nI_mulL, nI_Lmul, pk_mul, pk_sub, nI_subL, nI_Lsub, i2l_nI, Int.toNat_natCast, Nat.not_lt_zero, Nat.zero_le, ifT, ifF, not_true_eq_false, not_false_eq_true, if_true, if_false, or_self, and_self, true_and, and_true, or_true, true_or, false_or, or_false, false_and, and_false, gL, pL, hm_26 h, sm_26 h, lu_at, lu_lu, g1, m3, m2]
    exact ih _
theorem l_ieD (h : MO E ah m ma) (hM : 2 ≤ M ∧ M ≤ 20) (hk : k ≤ 4) (hk1 : 1 ≤ k) {u b r : Nat} (hu : 0 < u) (hu2 : u ≤ 1000000000000) (hb : 0 < b) (hb2 : b ≤ 1000000000000) (hr : r ≤ 60) {d : Int32} : ∀ z i R l10, i + z = r → WP E (c + 2) 235 110 [some (.ref m), some (.int (nI k)), some (.int (nI M)), some (.int (nI r)), some (.long (lN u)), none, some (.int d), some (.long (lN b)), none, some (.int (nI i)), l10, none] [] (mh E ah m ma v ai (lu al 26 R)) (fun r1 x1 => r1 = some (.int (mlR (k + 1) (lN u) (lN b) (fun i => svP (al 96) (lN M) k (lN i)) z i R)) ∧ ∃ R', x1 = mh E ah m ma v ai (lu al 26 R'))
  | 0, i, R, l10, hz => by
    rw [show i = r by omega, r235_110]
    simp (disch := first | assumption | omega | decide | (simp only [List.length_cons, List.length_nil, Nat.reduceAdd, Nat.reduceLT]; done) | fail) only [r235_112, r235_113, r235_220, r235_221 (x := 0) (Or.inl rfl), r235_221 (x := 1) (Or.inr rfl), r235_221 (b2i_or _), WPo_some, List.getElem?_cons_succ, List.getElem?_cons_zero, kil_n, kil_i, kil_a, kil_u, kil_l, Option.toList_some, Option.toList_none, List.cons_append, List.nil_append, List.set_cons_succ, List.set_cons_zero, addm1, Nat.reduceAdd, List.length_cons, List.length_nil, Nat.reduceLT, nI_clamp, nI_toInt, nI_leL, nI_Lle, nI_ltL, nI_Llt, nI_eqL, nI_Leq, nI_leE, nI_ltE, nI_eqE, nI_eqM, nI_add, nI_addL, nI_Ladd, nI_mulL, nI_Lmul, pk_mul, pk_sub, nI_subL, nI_Lsub, i2l_nI, Int.toNat_natCast, Nat.not_lt_zero, Nat.zero_le, ifT, ifF, not_true_eq_false, not_false_eq_true, if_true, if_false, or_self, and_self, true_and, and_true, or_true, true_or, false_or, or_false, false_and, and_false]
    exact ⟨rfl, R, rfl⟩
  | z + 1, i, R, l10, hz => by
    have ih := fun l10 => l_ieD h hM hk hk1 hu hu2 hb hb2 hr (d := d) z (i + 1) (tx (k + 1) R) l10 (by omega)
    let P := fun i => svP (al 96) (lN M) k (lN i)
    have at1 := m_atP (E := E) (c := c + 1) (v := v) (ai := ai) (al := al) h hM hk hk1 (D := R) (show i < 2 ^ 31 by omega)
    rw [r235_110]
    by_cases y : nrL (R 0) (lN b) = nrL (svP (al 96) (lN M) k (lN i)) (lN u)
    · rw [show mlR (k + 1) (lN u) (lN b) (fun i => svP (al 96) (lN M) k (lN i)) (z + 1) i R = mlR (k + 1) (lN u) (lN b) (fun i => svP (al 96) (lN M) k (lN i)) z (i + 1) (tx (k + 1) R) from if_pos y]
      have t := l_mt1 (E := E) (c := c + 2) (v := v) (ai := ai) (al := al) h hk (a2 := some (.int (nI M))) (a3 := some (.int (nI r))) (a4 := some (.long (lN u))) (a5 := none) (a6 := some (.int d)) (a7 := some (.long (lN b))) (a8 := none) (l11 := none) (n9 := nI i) (Q := fun r1 x1 => r1 = some (.int (mlR (k + 1) (lN u) (lN b) (fun i => svP (al 96) (lN M) k (lN i)) z (i + 1) (tx (k + 1) R))) ∧ ∃ R', x1 = mh E ah m ma v ai (lu al 26 R')) 3 0 R (by omega) (by omega) (fun l10 => by
        have t' := l_mt2 (E := E) (c := c + 2) (v := v) (ai := ai) (al := al) h hk (a2 := some (.int (nI M))) (a3 := some (.int (nI r))) (a4 := some (.long (lN u))) (a5 := none) (a6 := some (.int d)) (a7 := some (.long (lN b))) (a8 := none) (l11 := none) (n9 := nI i) (Q := fun r1 x1 => r1 = some (.int (mlR (k + 1) (lN u) (lN b) (fun i => svP (al 96) (lN M) k (lN i)) z (i + 1) (tx (k + 1) R))) ∧ ∃ R', x1 = mh E ah m ma v ai (lu al 26 R')) 3 1 (adL (k + 1) 3 0 R) (by omega) (by omega) (fun l10 => by
          have i1 := ih l10
          rw [adL_tx (by omega) (by omega)]
          simp (disch := first | assumption | omega | decide | (simp only [List.length_cons, List.length_nil, Nat.reduceAdd, Nat.reduceLT]; done) | fail) only [r235_214, r235_217, WPo_some, List.getElem?_cons_succ, List.getElem?_cons_zero, kil_n, kil_i, kil_a, kil_u, kil_l, Option.toList_some, Option.toList_none, List.cons_append, List.nil_append, List.set_cons_succ, List.set_cons_zero, addm1, Nat.reduceAdd, List.length_cons, List.length_nil, Nat.reduceLT, nI_clamp, nI_toInt, nI_leL, nI_Lle, nI_ltL, nI_Llt, nI_eqL, nI_Leq, nI_leE, nI_ltE, nI_eqE, nI_eqM, nI_add, nI_addL, nI_Ladd, nI_mulL, nI_Lmul, pk_mul, pk_sub, nI_subL, nI_Lsub, i2l_nI, Int.toNat_natCast, Nat.not_lt_zero, Nat.zero_le, ifT, ifF]
          exact i1)
        simp (disch := first | assumption | omega | decide | (simp only [List.length_cons, List.length_nil, Nat.reduceAdd, Nat.reduceLT]; done) | fail) only [r235_180, r235_181, WPo_some, List.getElem?_cons_succ, List.getElem?_cons_zero, kil_n, kil_i, kil_a, kil_u, kil_l, Option.toList_some, Option.toList_none, List.cons_append, List.nil_append, List.set_cons_succ, List.set_cons_zero, addm1, Nat.reduceAdd, List.length_cons, List.length_nil, Nat.reduceLT]
        exact t')
      simp (disch := first | assumption | omega | decide | (simp only [List.length_cons, List.length_nil, Nat.reduceAdd, Nat.reduceLT]; done) | fail) only [r235_112, r235_113, r235_116, r235_117, r235_120, r235_121, r235_122, r235_127, r235_128, r235_129, r235_130, r235_135, r235_140, r235_141, r235_144, r235_145 (x := 0) (Or.inl rfl), r235_145 (x := 1) (Or.inr rfl), r235_145 (b2i_or _), r235_146, r235_147, q235_124 (m_near hb hb2), q235_132 at1 h.ci, q235_137 (m_near hu hu2), mh_o h, gm_26, WPo_some, List.getElem?_cons_succ, List.getElem?_cons_zero, kil_n, kil_i, kil_a, kil_u, kil_l, Option.toList_some, Option.toList_none, List.cons_append, List.nil_append, List.set_cons_succ, List.set_cons_zero, addm1, Nat.reduceAdd, List.length_cons, List.length_nil, Nat.reduceLT, nI_clamp, nI_toInt, nI_leL, nI_Lle, nI_ltL, nI_Llt, nI_eqL, nI_Leq, nI_leE, nI_ltE, nI_eqE, nI_eqM, nI_add, nI_addL, nI_Ladd, nI_mulL, nI_Lmul, pk_mul, pk_sub, nI_subL, nI_Lsub, i2l_nI, Int.toNat_natCast, Nat.not_lt_zero, Nat.zero_le, ifT, ifF, not_true_eq_false, not_false_eq_true, if_true, if_false, or_self, and_self, true_and, and_true, or_true, true_or, false_or, or_false, false_and, and_false, gL, hm_26 h, lu_at, lg_cmp_eq, tc0, y]
      exact t
    · rw [show mlR (k + 1) (lN u) (lN b) (fun i => svP (al 96) (lN M) k (lN i)) (z + 1) i R = 0 from if_neg y]
      simp (disch := first | assumption | omega | decide | (simp only [List.length_cons, List.length_nil, Nat.reduceAdd, Nat.reduceLT]; done) | fail) only [r235_112, r235_113, r235_116, r235_117, r235_120, r235_121, r235_122, r235_127, r235_128, r235_129, r235_130, r235_135, r235_140, r235_141, r235_144, r235_145 (x := 0) (Or.inl rfl), r235_145 (x := 1) (Or.inr rfl), r235_145 (b2i_or _), q235_124 (m_near hb hb2), q235_132 at1 h.ci, q235_137 (m_near hu hu2), mh_o h, gm_26, WPo_some, List.getElem?_cons_succ, List.getElem?_cons_zero, kil_n, kil_i, kil_a, kil_u, kil_l, Option.toList_some, Option.toList_none, List.cons_append, List.nil_append, List.set_cons_succ, List.set_cons_zero, addm1, Nat.reduceAdd, List.length_cons, List.length_nil, Nat.reduceLT, nI_clamp, nI_toInt, nI_leL, nI_Lle, nI_ltL, nI_Llt, nI_eqL, nI_Leq, nI_leE, nI_ltE, nI_eqE, nI_eqM, nI_add, nI_addL, nI_Ladd, nI_mulL, nI_Lmul, pk_mul, pk_sub, nI_subL, nI_Lsub, i2l_nI, Int.toNat_natCast, Nat.not_lt_zero, Nat.zero_le, ifT, ifF, not_true_eq_false, not_false_eq_true, if_true, if_false, or_self, and_self, true_and, and_true, or_true, true_or, false_or, or_false, false_and, and_false, gL, hm_26 h, lu_at, lg_cmp_eq, tc0, y]
      exact ⟨R, rfl⟩
theorem m_isEnough (h : MO E ah m ma) (hM : 2 ≤ M ∧ M ≤ 20) (hk : k ≤ 4) (hk1 : 1 ≤ k) {f r : Nat} (hf : f ≤ 6) (hr : r ≤ 60) {t : Nat → Int64} (ht : eqN (k + 1) (al 96) (fd0 t k)) (hb : ∀ j, j < k + 1 → bdI (t j) 10000) {R : Nat → Int64} : ∃ R', EV E (c + 2) 235 [.ref m, .int (nI k), .int (nI M), .int (nI r), .long (lN (unN M k)), .int (nI f)] (mh E ah m ma v ai (lu al 26 R)) (some (.int (alR (k + 1) (lN (unN M k)) (lN (10 ^ f)) r (bkD (k + 1) (fP t k M)) (rnD (bkD (k + 1) (fP t k M)) (lN (unN M k)) (lN (10 ^ f)))))) (mh E ah m ma v ai (lu al 26 R')) := by
  have u0 := unN_pos (M := M) (by omega) k
  have u1 := unN_le2 hM.2 hk
  have u2 : unN M k ≤ 1000000000000 := Nat.le_trans u1 (by decide)
  have b1 : 10 ^ f ≤ 10 ^ 12 := Nat.pow_le_pow_right (by decide) (by omega)
  have b0 : 0 < 10 ^ f := Nat.pow_pos (by decide)
  have b2 : 10 ^ f ≤ 1000000000000 := Nat.le_trans b1 (by decide)
  have eP : (fun i => svP (al 96) (lN M) k (lN i)) = fP t k M := by
    funext i
    unfold fP
    rw [svP_eq ht]
  let D := bkD (k + 1) (ovr R 0 (k + 1) (fun i => svP (al 96) (lN M) k (lN i)))
  have eD : eqN (k + 1) D (bkD (k + 1) (fP t k M)) := bkD_eq (by omega) (fun i hi => by rw [ovr0_in hi]; exact congrFun eP i)
  have bD := bkD_bdI (n := k + 1) (by omega) (by omega) (fun j hj => fP_bd hk1 hk hM.2 (show j < 5 by omega) hb)
  have eR : eqN (k + 1) (ovr D 0 (k + 1) (rmD D (lN (unN M k)) (lN (10 ^ f)))) (rnD (bkD (k + 1) (fP t k M)) (lN (unN M k)) (lN (10 ^ f))) := fun i hi => by
    rw [ovr0_in hi, rm_rn (by rw [eD i hi]; exact bD i hi) u0 u1 hf]
    unfold rnD
    rw [eD i hi]
  have key : mlR (k + 1) (lN (unN M k)) (lN (10 ^ f)) (fun i => svP (al 96) (lN M) k (lN i)) r 0 (ovr D 0 (k + 1) (rmD D (lN (unN M k)) (lN (10 ^ f)))) = alR (k + 1) (lN (unN M k)) (lN (10 ^ f)) r (bkD (k + 1) (fP t k M)) (rnD (bkD (k + 1) (fP t k M)) (lN (unN M k)) (lN (10 ^ f))) := by
    rw [mlR_eq (by omega) r 0 _ _ eR, eP]
    exact (al_ml (n := k + 1) (by omega) (by omega) (P := fP t k M) (fun i => sv_turn hk1 hk i) r 0 _).symm
  have lD := fun l10 => l_ieD (E := E) (c := c) (v := v) (ai := ai) (al := al) h hM hk hk1 u0 u2 b0 b2 hr (d := nI f) r 0 (ovr D 0 (k + 1) (rmD D (lN (unN M k)) (lN (10 ^ f)))) l10 (by omega)
  rw [key] at lD
  have lC := l_ieC (E := E) (c := c) (v := v) (ai := ai) (al := al) h hk u0 u2 (a2 := some (.int (nI M))) (a3 := some (.int (nI r))) (b := lN (10 ^ f)) (d := nI f) (D := D) (K := fun l10 => by
    simp (disch := first | assumption | omega | decide | (simp only [List.length_cons, List.length_nil, Nat.reduceAdd, Nat.reduceLT]; done) | fail) only [r235_107, r235_108, WPo_some, List.getElem?_cons_succ, List.getElem?_cons_zero, kil_n, kil_i, kil_a, kil_u, kil_l, Option.toList_some, Option.toList_none, List.cons_append, List.nil_append, List.set_cons_succ, List.set_cons_zero, addm1, Nat.reduceAdd, List.length_cons, List.length_nil, Nat.reduceLT]
    exact lD l10) (k + 1) 0 none (by omega)
  rw [ovr_0] at lC
  have lA := l_ieA (E := E) (c := c + 1) (v := v) (ai := ai) (al := al) h hM hk hk1 (a3 := some (.int (nI r))) (a4 := lN (unN M k)) (a7 := lN (10 ^ f)) (d := nI f) (N0 := R) (K := by
    simp (disch := first | assumption | omega | decide | (simp only [List.length_cons, List.length_nil, Nat.reduceAdd, Nat.reduceLT]; done) | fail) only [r235_37, r235_38, r235_39, r235_40, r235_44, r235_45, q235_41 (m_back h (show k + 1 ≤ 7 by omega) (by omega)) h.ci, WPo_some, List.getElem?_cons_succ, List.getElem?_cons_zero, kil_n, kil_i, kil_a, kil_u, kil_l, Option.toList_some, Option.toList_none, List.cons_append, List.nil_append, List.set_cons_succ, List.set_cons_zero, addm1, Nat.reduceAdd, List.length_cons, List.length_nil, Nat.reduceLT, nI_clamp, nI_toInt, nI_leL, nI_Lle, nI_ltL, nI_Llt, nI_eqL, nI_Leq, nI_leE, nI_ltE, nI_eqE, nI_eqM, nI_add, nI_addL, nI_Ladd, nI_mulL, nI_Lmul, pk_mul, pk_sub, nI_subL, nI_Lsub, i2l_nI, Int.toNat_natCast, Nat.not_lt_zero, Nat.zero_le, ifT, ifF]
    exact lC) (k + 1) 0 (by omega)
  rw [ovr_0] at lA
  obtain ⟨r1, x1, ⟨e1, R', e2⟩, w⟩ := WP.ex lA
  subst e1 e2
  refine ⟨R', e235 ?_⟩
  have k1 := m_times10 (E := E) (c := c + 1) (ah := mh E ah m ma v ai (lu al 26 R)) hf
  generalize lN (10 ^ f) = V at k1 w ⊢
  simp (disch := first | assumption | omega | decide | (simp only [List.length_cons, List.length_nil, Nat.reduceAdd, Nat.reduceLT]; done) | fail) only [r235_0, r235_5, r235_7, r235_8, q235_2 k1, WPo_some, List.getElem?_cons_succ, List.getElem?_cons_zero, kil_n, kil_i, kil_a, kil_u, kil_l, Option.toList_some, Option.toList_none, List.cons_append, List.nil_append, List.set_cons_succ, List.set_cons_zero, addm1, Nat.reduceAdd, List.length_cons, List.length_nil, Nat.reduceLT]
  exact w
end IE

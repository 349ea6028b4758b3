/-! Errata of the model: the call -/
noncomputable def erB (n k b : Nat) (V : Nat → Nat) (v v' : Nat → Value) (ai ai' : Nat → Nat → Int32) (r : Int32) : Prop :=
  (r = 0 ∧ smo n k b (vI V) ∧ v' 74 = .int (nI 0)) ∨
  (r = 1 ∧ ¬ smo n k b (vI V) ∧ v' 74 = .int (nI 1) ∧ ∃ (i : Nat) (x : Int32), ai' 97 0 = nI i ∧ ai' 98 0 = x ∧ B1 n k b V i x.toInt) ∨
  (r = 2 ∧ ¬ smo n k b (vI V) ∧ (∀ i x, ¬ P1 n k b V i x) ∧ v' 74 = .int (nI 2) ∧ ∃ (i j : Nat) (x y : Int32), ai' 97 0 = nI i ∧ ai' 98 0 = x ∧ ai' 97 1 = nI j ∧ ai' 98 1 = y ∧ B2 n k b V i j x.toInt y.toInt) ∨
  (r = -1 ∧ ¬ smo n k b (vI V) ∧ (∀ i x, ¬ P1 n k b V i x) ∧ (∀ i j x y, ¬ P2 n k b V i j x y) ∧ v' 74 = v 74 ∧ ai' 97 = ai 97 ∧ ai' 98 = ai 98)
section MER
variable {E : aEnv} {c m : Nat} {ah : aHp} {ma : Nat → Nat} {v : Nat → Value} {ai : Nat → Nat → Int32} {al : Nat → Nat → Int64} {n k b : Nat} {sr : Nat → Int32} {mn : Nat → Nat} {tn : Nat → Nat → Int64}
theorem l_emL (h : MO E ah m ma) (hT : TM ai al sr mn tn) {j n : Nat} (hj : j < 4) (hn : n ≤ mn j) (hn20 : n ≤ 20) {l3 l6 l7 : Option Value} {l4 : Int32} {Q : Option Value → aHp → Prop} (K1 : (∀ q, q < n → 0 ≤ tn j q ∧ tn j q ≤ 99999999) → WP E (c + 1) 270 127 [some (.ref m), some (.int (nI j)), some (.int (nI n)), l3, some (.int l4), some (.int (nI n)), l6, l7] [] (mh E ah m ma v ai al) Q) (K2 : ¬ (∀ q, q < n → 0 ≤ tn j q ∧ tn j q ≤ 99999999) → Q (some (.int (-1))) (mh E ah m ma (vu v 0 (.int 5)) ai al)) :
    ∀ z i, i + z = n → (∀ q, q < i → 0 ≤ tn j q ∧ tn j q ≤ 99999999) → WP E (c + 1) 270 92 [some (.ref m), some (.int (nI j)), some (.int (nI n)), l3, some (.int l4), some (.int (nI i)), l6, l7] [] (mh E ah m ma v ai al) Q
  | 0, i, hz, hi => by
    rw [show i = n by omega, r270_92]
    simp (disch := first | assumption | omega | decide | (simp only [List.length_cons, List.length_nil, Nat.reduceAdd, Nat.reduceLT]; done) | fail) only [r270_94, r270_95, WPo_some, List.getElem?_cons_succ, List.getElem?_cons_zero, kil_n, kil_i, kil_a, kil_u, kil_l, Option.toList_some, Option.toList_none, List.cons_append, List.nil_append, List.set_cons_succ, List.set_cons_zero, addm1, Nat.reduceAdd, List.length_cons, List.length_nil, Nat.reduceLT, nI_clamp, nI_toInt, nI_leL, nI_Lle, nI_ltL, nI_Llt, nI_eqL, nI_Leq, nI_leE, nI_ltE, nI_eqE, nI_eqM, nI_add, nI_addL, nI_Ladd, nI_mulL, nI_Lmul, pk_mul, pk_sub, nI_subL, nI_Lsub, i2l_nI, Int.toNat_natCast, Nat.not_lt_zero, Nat.zero_le, ifT, ifF, not_true_eq_false, not_false_eq_true, if_true, if_false, or_self, and_self, true_and, and_true, or_true, true_or, false_or, or_false, false_and, and_false]
    exact K1 (fun k hk => hi k (by omega))
  | z + 1, i, hz, hi => by
    rw [r270_92]
    by_cases hc : 0 ≤ tn j i ∧ tn j i ≤ 99999999
    · have ih := l_emL h hT hj hn hn20 K1 K2 z (i + 1) (by omega) (fun k hk => by
        by_cases y : k = i
        · rw [y]; exact hc
        · exact hi k (by omega))
      simp (disch := first | assumption | omega | decide | (simp only [List.length_cons, List.length_nil, Nat.reduceAdd, Nat.reduceLT]; done) | fail) only [r270_94, r270_95, r270_98, r270_99, r270_100, r270_105, r270_106, r270_112, r270_115, r270_116, r270_120, r270_121, r270_124, q270_102 (m_numberOf h hT hj (show i < mn j by omega)) h.ci, q270_109 m_isIn, WPo_some, List.getElem?_cons_succ, List.getElem?_cons_zero, kil_n, kil_i, kil_a, kil_u, kil_l, Option.toList_some, Option.toList_none, List.cons_append, List.nil_append, List.set_cons_succ, List.set_cons_zero, addm1, Nat.reduceAdd, List.length_cons, List.length_nil, Nat.reduceLT, nI_clamp, nI_toInt, nI_leL, nI_Lle, nI_ltL, nI_Llt, nI_eqL, nI_Leq, nI_leE, nI_ltE, nI_eqE, nI_eqM, nI_add, nI_addL, nI_Ladd, nI_mulL, nI_Lmul, pk_mul, pk_sub, nI_subL, nI_Lsub, i2l_nI, Int.toNat_natCast, Nat.not_lt_zero, Nat.zero_le, ifT, ifF, not_true_eq_false, not_false_eq_true, if_true, if_false, or_self, and_self, true_and, and_true, or_true, true_or, false_or, or_false, false_and, and_false, b2i_eq0, hc]
      exact ih
    · have K := K2 (fun y => hc (y i (by omega)))
      simp (disch := first | assumption | omega | decide | (simp only [List.length_cons, List.length_nil, Nat.reduceAdd, Nat.reduceLT]; done) | fail) only [r270_94, r270_95, r270_98, r270_99, r270_100, r270_105, r270_106, r270_112, r270_115, r270_116, r270_120, q270_102 (m_numberOf h hT hj (show i < mn j by omega)) h.ci, q270_109 m_isIn, q270_117 (m_refuse h) h.ci, WPo_some, List.getElem?_cons_succ, List.getElem?_cons_zero, kil_n, kil_i, kil_a, kil_u, kil_l, Option.toList_some, Option.toList_none, List.cons_append, List.nil_append, List.set_cons_succ, List.set_cons_zero, addm1, Nat.reduceAdd, List.length_cons, List.length_nil, Nat.reduceLT, nI_clamp, nI_toInt, nI_leL, nI_Lle, nI_ltL, nI_Llt, nI_eqL, nI_Leq, nI_leE, nI_ltE, nI_eqE, nI_eqM, nI_add, nI_addL, nI_Ladd, nI_mulL, nI_Lmul, pk_mul, pk_sub, nI_subL, nI_Lsub, i2l_nI, Int.toNat_natCast, Nat.not_lt_zero, Nat.zero_le, ifT, ifF, not_true_eq_false, not_false_eq_true, if_true, if_false, or_self, and_self, true_and, and_true, or_true, true_or, false_or, or_false, false_and, and_false, b2i_eq0, hc]
      exact K
theorem m_errata_no (h : MO E ah m ma) (hT : TM ai al sr mn tn) {tray n k b : Int32} (hs : ¬ ecSt sr mn tn tray n k b = 0) : EV E (c + 2) 270 [.ref m, .int tray, .int n, .int k, .int b] (mh E ah m ma v ai al) (some (.int (-1))) (mh E ah m ma (vu (vu v 1 (.int 0)) 0 (.int (ecSt sr mn tn tray n k b))) ai al) := by
  refine e270 ?_
  have ht1 := m_trayed (E := E) (c := c + 1) (v := vu v 1 (.int 0)) h hT (x := tray)
  by_cases h1 : 0 ≤ tray.toInt ∧ tray.toInt ≤ 3
  · obtain ⟨j, hj, rfl⟩ := i32_nat (n := 4) h1.1 (by omega)
    have ej := nI_toInt (show j < 2 ^ 31 by omega)
    obtain ⟨m1, m2, m3⟩ := hT j hj
    rw [if_neg (not_not_intro h1), ej, Int.toNat_natCast] at ht1
    rw [ecSt_i hj] at hs ⊢
    by_cases h3 : sr j = -1
    · rw [if_pos h3] at ht1 ⊢
      simp (disch := first | assumption | omega | decide | (simp only [List.length_cons, List.length_nil, Nat.reduceAdd, Nat.reduceLT]; done) | fail) only [r270_0, r270_1, r270_2, r270_5, r270_6, r270_7, r270_11, r270_14, r270_15, r270_18, r270_21, r270_22, mh_o h, mh_put h, pm_1, pm_0, gm_0, vu_at, q270_8 ht1 h.ci, WPo_some, List.getElem?_cons_succ, List.getElem?_cons_zero, kil_n, kil_i, kil_a, kil_u, kil_l, Option.toList_some, Option.toList_none, List.cons_append, List.nil_append, List.set_cons_succ, List.set_cons_zero, addm1, Nat.reduceAdd, List.length_cons, List.length_nil, Nat.reduceLT, not_true_eq_false, not_false_eq_true, if_true, if_false, or_self, and_self, true_and, and_true, or_true, true_or, false_or, or_false, false_and, and_false, show ¬ (3 : Int32) ≤ 0 by decide]
    · rw [if_neg h3] at ht1 hs m2 ⊢
      by_cases h2 : (3 ≤ n.toInt ∧ n.toInt ≤ 20) ∧ (1 ≤ k.toInt ∧ k.toInt ≤ 4) ∧ k.toInt < n.toInt ∧ 0 ≤ b.toInt ∧ b.toInt ≤ 1000
      · rw [if_neg (not_not_intro h2)] at hs ⊢
        obtain ⟨q, hq, rfl⟩ := i32_nat (x := n) (n := 21) (by omega) (by omega)
        have eq := nI_toInt (show q < 2 ^ 31 by omega)
        rw [eq] at h2 hs ⊢
        have c1 : (3 : Int64) ≤ (nI q).toInt64 ∧ (nI q).toInt64 ≤ 20 := by simp only [i64_lt, i64_le, i2l_toInt, Int64.reduceToInt, eq]; omega
        have c2 : (1 : Int64) ≤ k.toInt64 ∧ k.toInt64 ≤ 4 := by simp only [i64_lt, i64_le, i2l_toInt, Int64.reduceToInt]; omega
        have c3 : (0 : Int64) ≤ b.toInt64 ∧ b.toInt64 ≤ 1000 := by simp only [i64_lt, i64_le, i2l_toInt, Int64.reduceToInt]; omega
        have c4 : ¬ nI q ≤ k := by simp only [i32_lt, i32_le, i64_lt, i64_le, i2l_toInt, Int32.reduceToInt, Int64.reduceToInt, eq]; omega
        by_cases h4 : (mn j : Int) < q
        · rw [if_pos h4]
          simp (disch := first | assumption | omega | decide | (simp only [List.length_cons, List.length_nil, Nat.reduceAdd, Nat.reduceLT]; done) | fail) only [r270_0, r270_1, r270_2, r270_5, r270_6, r270_7, r270_11, r270_14, r270_15, r270_18, r270_21, r270_22, r270_23, r270_24, r270_25, r270_28, r270_34, r270_37, r270_38, r270_39, r270_40, r270_46, r270_49, r270_50, r270_51, r270_54, r270_56, r270_57, r270_58, r270_64, r270_67, r270_68, r270_72, r270_73, r270_74, r270_77, r270_78, r270_79, r270_80, r270_83, r270_84, r270_88, mh_o h, mh_put h, pm_1, pm_0, gm_0, gm_3, vu_at, q270_8 ht1 h.ci, q270_31 m_isIn, q270_43 m_isIn, q270_61 m_isIn, q270_85 (m_refuse h) h.ci, WPo_some, List.getElem?_cons_succ, List.getElem?_cons_zero, kil_n, kil_i, kil_a, kil_u, kil_l, Option.toList_some, Option.toList_none, List.cons_append, List.nil_append, List.set_cons_succ, List.set_cons_zero, addm1, Nat.reduceAdd, List.length_cons, List.length_nil, Nat.reduceLT, not_true_eq_false, not_false_eq_true, if_true, if_false, or_self, and_self, true_and, and_true, or_true, true_or, false_or, or_false, false_and, and_false, b2i_eq0, c1, c2, c3, c4, show (0 : Int32) ≤ 0 by decide, gI, hm_3 h, m2.1, nI_clamp, nI_toInt, nI_leL, nI_Lle, nI_ltL, nI_Llt, nI_eqL, nI_Leq, nI_leE, nI_ltE, nI_eqE, nI_eqM, nI_add, nI_addL, nI_Ladd, nI_mulL, nI_Lmul, pk_mul, pk_sub, nI_subL, nI_Lsub, i2l_nI, Int.toNat_natCast, Nat.not_lt_zero, Nat.zero_le, ifT, ifF, vu_vu]
        · rw [if_neg h4, Int.toNat_natCast] at hs ⊢
          by_cases h5 : ∀ x, x < q → 0 ≤ tn j x ∧ tn j x ≤ 99999999
          · exact absurd (if_neg (not_not_intro h5)) hs
          · rw [if_pos h5]
            have l := l_emL (E := E) (c := c + 1) (v := vu (vu v 1 (.int 0)) 0 (.int 0)) h hT hj (show q ≤ mn j by omega) (by omega) (l3 := some (.int k)) (l4 := b) (l6 := none) (l7 := none) (Q := fun r1 x1 => r1 = some (.int (-1)) ∧ x1 = mh E ah m ma (vu (vu v 1 (.int 0)) 0 (.int 5)) ai al) (fun z => absurd z h5) (fun z => ⟨rfl, by rw [vu_vu]⟩) q 0 (by omega) (fun x hx => absurd hx (by omega))
            simp (disch := first | assumption | omega | decide | (simp only [List.length_cons, List.length_nil, Nat.reduceAdd, Nat.reduceLT]; done) | fail) only [r270_0, r270_1, r270_2, r270_5, r270_6, r270_7, r270_11, r270_14, r270_15, r270_18, r270_21, r270_22, r270_23, r270_24, r270_25, r270_28, r270_34, r270_37, r270_38, r270_39, r270_40, r270_46, r270_49, r270_50, r270_51, r270_54, r270_56, r270_57, r270_58, r270_64, r270_67, r270_68, r270_72, r270_73, r270_74, r270_77, r270_78, r270_79, r270_80, r270_83, r270_84, r270_88, r270_89, r270_90, mh_o h, mh_put h, pm_1, pm_0, gm_0, gm_3, vu_at, q270_8 ht1 h.ci, q270_31 m_isIn, q270_43 m_isIn, q270_61 m_isIn, WPo_some, List.getElem?_cons_succ, List.getElem?_cons_zero, kil_n, kil_i, kil_a, kil_u, kil_l, Option.toList_some, Option.toList_none, List.cons_append, List.nil_append, List.set_cons_succ, List.set_cons_zero, addm1, Nat.reduceAdd, List.length_cons, List.length_nil, Nat.reduceLT, not_true_eq_false, not_false_eq_true, if_true, if_false, or_self, and_self, true_and, and_true, or_true, true_or, false_or, or_false, false_and, and_false, b2i_eq0, c1, c2, c3, c4, show (0 : Int32) ≤ 0 by decide, gI, hm_3 h, m2.1, nI_clamp, nI_toInt, nI_leL, nI_Lle, nI_ltL, nI_Llt, nI_eqL, nI_Leq, nI_leE, nI_ltE, nI_eqE, nI_eqM, nI_add, nI_addL, nI_Ladd, nI_mulL, nI_Lmul, pk_mul, pk_sub, nI_subL, nI_Lsub, i2l_nI, Int.toNat_natCast, Nat.not_lt_zero, Nat.zero_le, ifT, ifF, vu_vu]
            exact l
      · rw [if_pos h2]
        simp (disch := first | assumption | omega | decide | (simp only [List.length_cons, List.length_nil, Nat.reduceAdd, Nat.reduceLT]; done) | fail) only [r270_0, r270_1, r270_2, r270_5, r270_6, r270_7, r270_11, r270_14, r270_15, r270_18, r270_21, r270_22, r270_23, r270_24, r270_25, r270_28, r270_34, r270_37, r270_38, r270_39, r270_40, r270_46, r270_49, r270_50, r270_51, r270_54, r270_56, r270_57, r270_58, r270_64, r270_67, r270_68, r270_72, mh_o h, mh_put h, pm_1, pm_0, gm_0, vu_at, q270_8 ht1 h.ci, q270_31 m_isIn, q270_43 m_isIn, q270_61 m_isIn, q270_69 (m_refuse h) h.ci, WPo_some, List.getElem?_cons_succ, List.getElem?_cons_zero, kil_n, kil_i, kil_a, kil_u, kil_l, Option.toList_some, Option.toList_none, List.cons_append, List.nil_append, List.set_cons_succ, List.set_cons_zero, addm1, Nat.reduceAdd, List.length_cons, List.length_nil, Nat.reduceLT, not_true_eq_false, not_false_eq_true, if_true, if_false, or_self, and_self, true_and, and_true, or_true, true_or, false_or, or_false, false_and, and_false, b2i_eq0, show (0 : Int32) ≤ 0 by decide, vu_vu]
        simp only [i32_lt, i32_le, i64_lt, i64_le, i2l_toInt, Int32.reduceToInt, Int64.reduceToInt]
        repeat' split
        all_goals first | exact trivial | exact ⟨rfl, rfl⟩ | (exfalso; omega) | (exfalso; simp_all; done) | (simp_all; done)
  · have e1 : ecSt sr mn tn tray n k b = 1 := if_pos h1
    rw [if_pos h1] at ht1
    rw [e1]
    simp (disch := first | assumption | omega | decide | (simp only [List.length_cons, List.length_nil, Nat.reduceAdd, Nat.reduceLT]; done) | fail) only [r270_0, r270_1, r270_2, r270_5, r270_6, r270_7, r270_11, r270_14, r270_15, r270_18, r270_21, r270_22, mh_o h, mh_put h, pm_1, pm_0, gm_0, vu_at, q270_8 ht1 h.ci, WPo_some, List.getElem?_cons_succ, List.getElem?_cons_zero, kil_n, kil_i, kil_a, kil_u, kil_l, Option.toList_some, Option.toList_none, List.cons_append, List.nil_append, List.set_cons_succ, List.set_cons_zero, addm1, Nat.reduceAdd, List.length_cons, List.length_nil, Nat.reduceLT, not_true_eq_false, not_false_eq_true, if_true, if_false, or_self, and_self, true_and, and_true, or_true, true_or, false_or, or_false, false_and, and_false, show ¬ (1 : Int32) ≤ 0 by decide]
/-- the end of errata: what was found is laid down -/
theorem l_emF (h : MO E ah m ma) {r : Nat} (hr : r ≤ 2) {l1 l2 l3 l7 : Option Value} {l4 : Int32} {l6 : Option Value} : ∃ f g, WP E (c + 1) 270 293 [some (.ref m), l1, l2, l3, some (.int l4), some (.int (nI r)), l6, l7] [] (mh E ah m ma v ai al) (fun r1 x => r1 = some (.int (nI r)) ∧ x = mh E ah m ma (vu v 74 (.int (nI r))) (iu (iu ai 97 f) 98 g) al) ∧ f 0 = ai 75 0 ∧ f 1 = ai 75 1 ∧ g 0 = ai 76 0 ∧ g 1 = ai 76 1 := by
  refine ⟨upd (upd (ai 97) 0 (ai 75 0)) 1 (ai 75 1), upd (upd (ai 98) 0 (ai 76 0)) 1 (ai 76 1), ?_, by rw [upd_ne (by decide), upd_at], upd_at, by rw [upd_ne (by decide), upd_at], upd_at⟩
  have lc2 : ∀ a b d e : Nat → Int32, iu (iu (iu (iu ai 97 a) 98 b) 97 d) 98 e = iu (iu ai 97 d) 98 e := fun a b d e => by
    funext q
    unfold iu
    by_cases w : q = 98
    · simp [w]
    · by_cases w2 : q = 97
      · simp [w2]
      · simp [w, w2]
  have lc3 : ∀ a b d : Nat → Int32, iu (iu (iu ai 97 a) 98 b) 97 d = iu (iu ai 97 d) 98 b := fun a b d => by
    funext q
    unfold iu
    by_cases w : q = 98
    · simp [w]
    · by_cases w2 : q = 97
      · simp [w2]
      · simp [w, w2]
  have n0 : (0 : Int32) ≤ nI r := by rw [show (0 : Int32) = nI 0 from rfl, nI_leE (by decide) (by omega)]; omega
  have z1 : (0 : Int32) + 1 = 1 := by decide
  have z2 : (1 : Int32) + 1 = 2 := by decide
  have t1 : Int32.toNatClampNeg 1 = 1 := rfl
  simp (disch := first | assumption | omega | decide | (simp only [List.length_cons, List.length_nil, Nat.reduceAdd, Nat.reduceLT]; done) | fail) only [r270_293, r270_295, r270_298, r270_299, r270_304, r270_305, r270_306, r270_308, r270_311, r270_312, r270_314, r270_316, r270_317, r270_320, r270_321, r270_324, r270_326, r270_327, r270_330, r270_332, r270_333, r270_334, r270_335, r270_338, r270_340, r270_341, r270_344, r270_346, r270_347, r270_348, r270_351, r270_354, r270_356, mh_o h, mh_put h, pm_74, gm_75, gm_76, gm_97, gm_98, gI, pI, hm_75 h, hm_76 h, hm_97 h, hm_98 h, sm_97 h, sm_98 h, iu_ne, iu_at, iu_iu, lc2, lc3, n0, z1, z2, tc0, t1, WPo_some, List.getElem?_cons_succ, List.getElem?_cons_zero, kil_n, kil_i, kil_a, kil_u, kil_l, Option.toList_some, Option.toList_none, List.cons_append, List.nil_append, List.set_cons_succ, List.set_cons_zero, addm1, Nat.reduceAdd, List.length_cons, List.length_nil, Nat.reduceLT, not_true_eq_false, not_false_eq_true, if_true, if_false, or_self, and_self, true_and, and_true, or_true, true_or, false_or, or_false, false_and, and_false, show ¬ (2 : Int32) ≤ 0 by decide, show ¬ (2 : Int32) ≤ 1 by decide, show (2 : Int32) ≤ 2 by decide, show ¬ (0 : Int32) < 0 by decide, show ¬ (1 : Int32) < 0 by decide, show ¬ 2 ≤ 0 by decide, show ¬ 2 ≤ 1 by decide, ifF]
theorem mrL_fr {V : Nat → Nat} {ai' : Nat → Nat → Int32} {al' : Nat → Nat → Int64} (hL : mrL n V ai al) (h70 : al' 70 = al 70) (h72 : al' 72 = al 72) (h73 : ai' 73 = ai 73) : mrL n V ai' al' := by
  unfold mrL
  rw [h70, h72, h73]
  exact hL
end MER

/-! Errata of the model: the variants -/
noncomputable def shL (a : Nat → Int64) (B c to : Nat) : Nat → Int64 := fun p => if B + to < p ∧ p ≤ B + c then a (p - 1) else a p
theorem shL_c {a : Nat → Int64} {B c : Nat} : shL a B c c = a := by
  funext q
  unfold shL
  rw [if_neg (by omega)]
theorem shL_dn {a : Nat → Int64} {B c to : Nat} (h1 : 0 < to) (hc : to ≤ c) : vp_updL (shL a B c to) (B + to) (a (B + to - 1)) = shL a B c (to - 1) := by
  funext q
  by_cases z : q = B + to
  · rw [z, vup_at]
    unfold shL
    rw [if_pos (by omega)]
  · rw [vup_ne z]
    unfold shL
    by_cases w : B + to < q ∧ q ≤ B + c
    · rw [if_pos w, if_pos (by omega)]
    · rw [if_neg w, if_neg (by omega)]
theorem shL_A {a : Nat → Int64} {B c to : Nat} {x : Int64} (hc : to ≤ c) : (fun q => (vp_updL (shL a B c to) (B + to) x (B + q)).toInt) = inA (fun q => (a (B + q)).toInt) c to x.toInt := by
  funext q
  unfold inA
  by_cases z : q = to
  · rw [z, vup_at, if_neg (by omega), if_pos rfl]
  · rw [vup_ne (by omega)]
    unfold shL
    by_cases w : q < to
    · rw [if_neg (by omega), if_pos w]
    · rw [if_neg w, if_neg z]
      by_cases y : q ≤ c
      · rw [if_pos (by omega), if_pos y, show B + q - 1 = B + (q - 1) by omega]
      · rw [if_neg (by omega), if_neg y]
section MVA
variable {E : aEnv} {c m : Nat} {ah : aHp} {ma : Nat → Nat} {v : Nat → Value} {ai : Nat → Nat → Int32} {al : Nat → Nat → Int64} {V : Nat → Nat}
theorem m_varies (h : MO E ah m ma) {i cc : Nat} (hi : i < 20) (hc : ai 73 i = nI cc) (hcc : cc < 80) {x : Int32} {M : Int → Prop} (hM : srS (fun q => (al 72 (80 * i + q)).toInt) cc M) : ∃ f G cc', EV E c 267 [.ref m, .int (nI i), .int x] (mh E ah m ma v ai al) none (mh E ah m ma v (iu ai 73 f) (lu al 72 G)) ∧ f i = nI cc' ∧ cc' ≤ cc + 1 ∧ srS (fun q => (G (80 * i + q)).toInt) cc' (fun y => M y ∨ y = x.toInt) ∧ (∀ q, q ≠ i → f q = ai 73 q) ∧ ∀ p, ¬ (80 * i ≤ p ∧ p < 80 * i + 80) → G p = al 72 p := by
  have ex : x.toInt64.toInt = x.toInt := i2l_toInt ..
  have b80 : (80 : Int32) * nI i = nI (80 * i) := by rw [show (80 : Int32) = nI 80 from rfl, pk_mul]
  -- shifting, then putting in
  have shift : ∀ to, to ≤ cc → (to = 0 ∨ (al 72 (80 * i + to - 1)).toInt ≤ x.toInt) → (∀ q, to ≤ q → q < cc → x.toInt < (al 72 (80 * i + q)).toInt) → ∀ z j, to + z = j → j ≤ cc → WP E c 267 76 [some (.ref m), some (.int (nI i)), some (.int x), some (.int (nI (80 * i + to))), some (.int (nI (80 * i + j)))] [] (mh E ah m ma v ai (lu al 72 (shL (al 72) (80 * i) cc j))) (fun r y => r = none ∧ y = mh E ah m ma v (iu ai 73 (upd (ai 73) i (nI (cc + 1)))) (lu al 72 (vp_updL (shL (al 72) (80 * i) cc to) (80 * i + to) x.toInt64))) := by
    intro to h1 h2 h3 z
    induction z with
    | zero =>
      intro j hz hj
      rw [show j = to by omega, r267_76]
      simp (disch := first | assumption | omega | decide | (simp only [List.length_cons, List.length_nil, Nat.reduceAdd, Nat.reduceLT]; done) | fail) only [r267_78, r267_79, r267_104, r267_105, r267_108, r267_109, r267_110, r267_111, r267_112, r267_113, r267_116, r267_117, r267_117l, r267_118, r267_119, r267_120, r267_121, r267_122, mh_o h, gm_72, gm_73, gI, pI, pL, hm_72 h, sm_72 h, hm_73 h, sm_73 h, lu_at, lu_lu, hc, WPo_some, List.getElem?_cons_succ, List.getElem?_cons_zero, kil_n, kil_i, kil_a, kil_u, kil_l, Option.toList_some, Option.toList_none, List.cons_append, List.nil_append, List.set_cons_succ, List.set_cons_zero, addm1, Nat.reduceAdd, List.length_cons, List.length_nil, Nat.reduceLT, nI_clamp, nI_toInt, nI_leL, nI_Lle, nI_ltL, nI_Llt, nI_eqL, nI_Leq, nI_leE, nI_ltE, nI_eqE, nI_eqM, nI_add, nI_addL, nI_Ladd, nI_mulL, nI_Lmul, pk_mul, pk_sub, nI_subL, nI_Lsub, i2l_nI, Int.toNat_natCast, Nat.not_lt_zero, Nat.zero_le, ifT, ifF, not_true_eq_false, not_false_eq_true, if_true, if_false, or_self, and_self, true_and, and_true, or_true, true_or, false_or, or_false, false_and, and_false]
    | succ z ih =>
      intro j hz hj
      have ih := ih (j - 1) (by omega) (by omega)
      have dn := shL_dn (a := al 72) (B := 80 * i) (c := cc) (to := j) (by omega) hj
      have rd : shL (al 72) (80 * i) cc j (80 * i + j - 1) = al 72 (80 * i + j - 1) := if_neg (by omega)
      rw [r267_76]
      simp (disch := first | assumption | omega | decide | (simp only [List.length_cons, List.length_nil, Nat.reduceAdd, Nat.reduceLT]; done) | fail) only [r267_78, r267_79, r267_82, r267_83, r267_86, r267_88, r267_89, r267_92, r267_94, r267_95, r267_96, r267_97, r267_98, r267_101, mh_o h, gm_72, gL, pL, hm_72 h, sm_72 h, lu_at, lu_lu, rd, dn, show ¬ 80 * i + j ≤ 80 * i + to by omega, nI_clamp, nI_leE, nI_ltE, nI_subL, nI_Lle, nI_leL, nI_ltL, nI_Llt, ifT, ifF, Nat.not_lt_zero, Nat.zero_le, WPo_some, List.getElem?_cons_succ, List.getElem?_cons_zero, kil_n, kil_i, kil_a, kil_u, kil_l, Option.toList_some, Option.toList_none, List.cons_append, List.nil_append, List.set_cons_succ, List.set_cons_zero, addm1, Nat.reduceAdd, List.length_cons, List.length_nil, Nat.reduceLT, not_true_eq_false, not_false_eq_true, if_true, if_false, or_self, and_self, true_and, and_true, or_true, true_or, false_or, or_false, false_and, and_false]
      rw [show 80 * i + (j - 1) = 80 * i + j - 1 by omega] at ih
      exact ih
  -- finding the place
  have find : ∀ to, to ≤ cc → (∀ q, to ≤ q → q < cc → x.toInt < (al 72 (80 * i + q)).toInt) → ∃ f G cc', WP E c 267 12 [some (.ref m), some (.int (nI i)), some (.int x), some (.int (nI (80 * i + to))), none] [] (mh E ah m ma v ai al) (fun r y => r = none ∧ y = mh E ah m ma v (iu ai 73 f) (lu al 72 G)) ∧ f i = nI cc' ∧ cc' ≤ cc + 1 ∧ srS (fun q => (G (80 * i + q)).toInt) cc' (fun y => M y ∨ y = x.toInt) ∧ (∀ q, q ≠ i → f q = ai 73 q) ∧ ∀ p, ¬ (80 * i ≤ p ∧ p < 80 * i + 80) → G p = al 72 p := by
    intro to
    induction to with
    | zero =>
      intro h1 h2
      have s := shift 0 h1 (Or.inl rfl) h2 cc cc (by omega) (Nat.le_refl _)
      rw [shL_c, lu_self] at s
      refine ⟨upd (ai 73) i (nI (cc + 1)), vp_updL (shL (al 72) (80 * i) cc 0) (80 * i + 0) x.toInt64, cc + 1, ?_, upd_at, Nat.le_refl _, ?_, fun q hq => upd_ne hq, fun p hp => ?_⟩
      · rw [r267_12]
        simp (disch := first | assumption | omega | decide | (simp only [List.length_cons, List.length_nil, Nat.reduceAdd, Nat.reduceLT]; done) | fail) only [r267_13, r267_15, r267_16, r267_17, r267_40, r267_41, r267_43, r267_44, r267_45, r267_63, r267_65, r267_66, r267_67, r267_68, r267_71, r267_72, r267_73, r267_74, mh_o h, gm_73, gI, hm_73 h, hc, b80, Nat.add_zero, WPo_some, List.getElem?_cons_succ, List.getElem?_cons_zero, kil_n, kil_i, kil_a, kil_u, kil_l, Option.toList_some, Option.toList_none, List.cons_append, List.nil_append, List.set_cons_succ, List.set_cons_zero, addm1, Nat.reduceAdd, List.length_cons, List.length_nil, Nat.reduceLT, nI_clamp, nI_toInt, nI_leL, nI_Lle, nI_ltL, nI_Llt, nI_eqL, nI_Leq, nI_leE, nI_ltE, nI_eqE, nI_eqM, nI_add, nI_addL, nI_Ladd, nI_mulL, nI_Lmul, pk_mul, pk_sub, nI_subL, nI_Lsub, i2l_nI, Int.toNat_natCast, Nat.not_lt_zero, Nat.zero_le, ifT, ifF, not_true_eq_false, not_false_eq_true, if_true, if_false, or_self, and_self, true_and, and_true, or_true, true_or, false_or, or_false, false_and, and_false]
        exact s
      · rw [shL_A h1, ex]
        exact inA_sr hM h1 (Or.inl rfl) h2
      · rw [vup_ne (by omega)]
        exact if_neg (by omega)
    | succ to ih =>
      intro h1 h2
      have e1 : 80 * i + (to + 1) - 1 = 80 * i + to := by omega
      by_cases y : x.toInt < (al 72 (80 * i + to)).toInt
      · obtain ⟨f, G, cc', w, hw⟩ := ih (by omega) (fun q q1 q2 => by
          by_cases z : q = to
          · rw [z]; exact y
          · exact h2 q (by omega) q2)
        refine ⟨f, G, cc', ?_, hw⟩
        have y' : ¬ al 72 (80 * i + to) ≤ x.toInt64 := by rw [i64_le, ex]; omega
        rw [r267_12]
        simp (disch := first | assumption | omega | decide | (simp only [List.length_cons, List.length_nil, Nat.reduceAdd, Nat.reduceLT]; done) | fail) only [r267_13, r267_15, r267_16, r267_17, r267_20, r267_21, r267_24, r267_25, r267_26, r267_27, r267_28, r267_29, r267_30, r267_31, r267_34, r267_37, mh_o h, gm_72, gL, hm_72 h, b80, e1, lg_cmp_le, y', show ¬ 80 * i + (to + 1) ≤ 80 * i by omega, nI_clamp, nI_leE, nI_ltE, nI_subL, nI_Lle, nI_leL, nI_ltL, nI_Llt, ifT, ifF, Nat.not_lt_zero, Nat.zero_le, WPo_some, List.getElem?_cons_succ, List.getElem?_cons_zero, kil_n, kil_i, kil_a, kil_u, kil_l, Option.toList_some, Option.toList_none, List.cons_append, List.nil_append, List.set_cons_succ, List.set_cons_zero, addm1, Nat.reduceAdd, List.length_cons, List.length_nil, Nat.reduceLT, not_true_eq_false, not_false_eq_true, if_true, if_false, or_self, and_self, true_and, and_true, or_true, true_or, false_or, or_false, false_and, and_false]
        exact w
      · have y' : al 72 (80 * i + to) ≤ x.toInt64 := by rw [i64_le, ex]; omega
        by_cases w : (al 72 (80 * i + to)).toInt = x.toInt
        · have w' : al 72 (80 * i + to) = x.toInt64 := Int64.toInt_inj.mp (by rw [ex]; exact w)
          refine ⟨ai 73, al 72, cc, ?_, hc, by omega, ⟨hM.1, fun y => ⟨fun z => ?_, fun z => Or.inl ((hM.2 y).mpr z)⟩⟩, fun _ _ => rfl, fun _ _ => rfl⟩
          · rw [iu_self, lu_self, r267_12]
            simp (disch := first | assumption | omega | decide | (simp only [List.length_cons, List.length_nil, Nat.reduceAdd, Nat.reduceLT]; done) | fail) only [r267_13, r267_15, r267_16, r267_17, r267_20, r267_21, r267_24, r267_25, r267_26, r267_27, r267_28, r267_29, r267_30, r267_31, r267_40, r267_41, r267_43, r267_44, r267_45, r267_48, r267_49, r267_52, r267_53, r267_54, r267_55, r267_56, r267_57, r267_58, r267_59, r267_62, mh_o h, gm_72, gL, hm_72 h, b80, e1, lg_cmp_le, lg_cmp_eq, eq_true y', eq_true w', show ¬ 80 * i + (to + 1) ≤ 80 * i by omega, nI_clamp, nI_leE, nI_ltE, nI_subL, nI_Lle, nI_leL, nI_ltL, nI_Llt, ifT, ifF, Nat.not_lt_zero, Nat.zero_le, WPo_some, List.getElem?_cons_succ, List.getElem?_cons_zero, kil_n, kil_i, kil_a, kil_u, kil_l, Option.toList_some, Option.toList_none, List.cons_append, List.nil_append, List.set_cons_succ, List.set_cons_zero, addm1, Nat.reduceAdd, List.length_cons, List.length_nil, Nat.reduceLT, not_true_eq_false, not_false_eq_true, if_true, if_false, or_self, and_self, true_and, and_true, or_true, true_or, false_or, or_false, false_and, and_false]
          · rcases z with z | z
            · exact (hM.2 y).mp z
            · exact ⟨to, by omega, by show (al 72 (80 * i + to)).toInt = y; rw [w, z]⟩
        · have w' : ¬ al 72 (80 * i + to) = x.toInt64 := fun z => w (by rw [z, ex])
          have s := shift (to + 1) h1 (Or.inr (by rw [e1]; omega)) h2 (cc - (to + 1)) cc (by omega) (Nat.le_refl _)
          rw [shL_c, lu_self] at s
          refine ⟨upd (ai 73) i (nI (cc + 1)), vp_updL (shL (al 72) (80 * i) cc (to + 1)) (80 * i + (to + 1)) x.toInt64, cc + 1, ?_, upd_at, Nat.le_refl _, ?_, fun q hq => upd_ne hq, fun p hp => ?_⟩
          · rw [r267_12]
            simp (disch := first | assumption | omega | decide | (simp only [List.length_cons, List.length_nil, Nat.reduceAdd, Nat.reduceLT]; done) | fail) only [r267_13, r267_15, r267_16, r267_17, r267_20, r267_21, r267_24, r267_25, r267_26, r267_27, r267_28, r267_29, r267_30, r267_31, r267_40, r267_41, r267_43, r267_44, r267_45, r267_48, r267_49, r267_52, r267_53, r267_54, r267_55, r267_56, r267_57, r267_58, r267_59, r267_63, r267_65, r267_66, r267_67, r267_68, r267_71, r267_72, r267_73, r267_74, mh_o h, gm_72, gm_73, gI, gL, hm_72 h, hm_73 h, hc, b80, e1, lg_cmp_le, lg_cmp_eq, eq_true y', w', show ¬ 80 * i + (to + 1) ≤ 80 * i by omega, nI_clamp, nI_add, nI_leE, nI_ltE, nI_subL, nI_Lle, nI_leL, nI_ltL, nI_Llt, ifT, ifF, Nat.not_lt_zero, Nat.zero_le, WPo_some, List.getElem?_cons_succ, List.getElem?_cons_zero, kil_n, kil_i, kil_a, kil_u, kil_l, Option.toList_some, Option.toList_none, List.cons_append, List.nil_append, List.set_cons_succ, List.set_cons_zero, addm1, Nat.reduceAdd, List.length_cons, List.length_nil, Nat.reduceLT, not_true_eq_false, not_false_eq_true, if_true, if_false, or_self, and_self, true_and, and_true, or_true, true_or, false_or, or_false, false_and, and_false]
            exact s
          · rw [shL_A h1, ex]
            refine inA_sr hM h1 (Or.inr ?_) h2
            show (al 72 (80 * i + (to + 1 - 1))).toInt ≤ x.toInt
            rw [show to + 1 - 1 = to by omega]
            omega
          · rw [vup_ne (by omega)]
            exact if_neg (by omega)
  obtain ⟨f, G, cc', w, hw⟩ := find cc (Nat.le_refl _) (fun q q1 q2 => absurd q2 (by omega))
  refine ⟨f, G, cc', e267 ?_, hw⟩
  simp (disch := first | assumption | omega | decide | (simp only [List.length_cons, List.length_nil, Nat.reduceAdd, Nat.reduceLT]; done) | fail) only [r267_0, r267_2, r267_3, r267_4, r267_5, r267_8, r267_9, r267_10, r267_11, mh_o h, gm_73, gI, hm_73 h, hc, b80, WPo_some, List.getElem?_cons_succ, List.getElem?_cons_zero, kil_n, kil_i, kil_a, kil_u, kil_l, Option.toList_some, Option.toList_none, List.cons_append, List.nil_append, List.set_cons_succ, List.set_cons_zero, addm1, Nat.reduceAdd, List.length_cons, List.length_nil, Nat.reduceLT, nI_clamp, nI_toInt, nI_leL, nI_Lle, nI_ltL, nI_Llt, nI_eqL, nI_Leq, nI_leE, nI_ltE, nI_eqE, nI_eqM, nI_add, nI_addL, nI_Ladd, nI_mulL, nI_Lmul, pk_mul, pk_sub, nI_subL, nI_Lsub, i2l_nI, Int.toNat_natCast, Nat.not_lt_zero, Nat.zero_le, ifT, ifF, not_true_eq_false, not_false_eq_true, if_true, if_false, or_self, and_self, true_and, and_true, or_true, true_or, false_or, or_false, false_and, and_false]
  exact w
end MVA

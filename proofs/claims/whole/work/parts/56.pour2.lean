/-! pour: refusals of the class; the model's -/
section POX2
variable {E : aEnv} {c : Nat} {ah : aHp} {A : Nat → Nat} {S : Nat → aE} {sr : Nat → Int32} {mn : Nat → Nat} {tn : Nat → Nat → Int64} {tx sp : Nat} {hT eC tL st : Int32}
theorem poSt_1 {tray i to j many : Int32} (h : ¬ ((0 ≤ tray.toInt ∧ tray.toInt ≤ 3) ∧ 0 ≤ to.toInt ∧ to.toInt ≤ 3)) : poSt sr mn tray i to j many = 1 := by
  unfold poSt
  rw [if_pos h]
theorem x_pour_no (hO : XO E ah A) (hX : S 0 = xO A tx sp hT eC tL st) (h : trS A S sr mn tn) {tray i to j many : Int32} (hs : ¬ poSt sr mn tray i to j many = 0) : ∃ S', EV E (c + 3) 149 [.ref (A 0), .int tray, .int i, .int to, .int j, .int many] (oh E ah A S) (some (.int 0)) (oh E ah A S') ∧ S' = su S 0 (xO A tx sp hT eC tL (poSt sr mn tray i to j many)) := by
  have hc := hO.c0 hX
  refine ⟨_, e149 ?_, rfl⟩
  have hX' := hX
  have e2 : ¬ (1 : Int32) = 0 := by decide
  by_cases h1 : 0 ≤ tray.toInt ∧ tray.toInt ≤ 3
  · obtain ⟨i0, hi0, rfl⟩ := i32_nat (n := 4) h1.1 (by omega)
    have hT1 := h.TR hO hi0
    by_cases h2 : 0 ≤ to.toInt ∧ to.toInt ≤ 3
    · obtain ⟨t0, ht0, rfl⟩ := i32_nat (n := 4) h2.1 (by omega)
      have hT2 := h.TR hO ht0
      rw [poSt_is hi0 ht0] at hs ⊢
      have h' : ∀ st, trS A (su S 0 (xO A tx sp hT eC tL st)) sr mn tn := fun st => h.x
      have k1 := fun st => (h' st).TR hO hi0
      have k2 := fun st => (h' st).TR hO ht0
      have m1 := hT1.2.2
      have m2 := hT2.2.2
      by_cases g1 : sr i0 = -1 ∨ sr t0 = -1
      · have e3 : ¬ (3 : Int32) = 0 := by decide
        unfold xO at hX' ⊢
        simp only [r149_0, r149_1, r149_5, r149_5n, r149_7, r149_8, r149_12, r149_12n, r149_14, r149_15, r149_15n, r149_17, r149_17n, r149_19, r149_24, r149_27, r149_28, r149_31, r149_34, r149_34n, r149_36, r149_37, r149_42, r149_45, r149_45n, r149_47, r149_49, r149_54, r149_57, r149_58, r149_59, r149_62, r149_63, r149_66, r149_69, r149_69n, r149_71, r149_71n, r149_73, r149_74, r149_76, r149_81, r149_82, r149_85, r149_88, r149_89, r149_92, r149_93 (x := 0) (Or.inl rfl), r149_93 (x := 1) (Or.inr rfl), r149_93 (b2i_or _), q149_2 (c_trayAt hO hX h hi0) hc, q149_9 (c_trayAt hO hX h ht0) hc, oGF_is, WPo_some, List.getElem?_cons_succ, List.getElem?_cons_zero, kil_n, kil_i, kil_a, kil_u, kil_l, Option.toList_some, Option.toList_none, List.cons_append, List.nil_append, List.set_cons_succ, List.set_cons_zero, addm1, Nat.reduceAdd, List.length_cons, List.length_nil, Nat.reduceLT, q149_21 (c_pourSt hT1 hT2), g1, hx_0 hO, hX', pf_10150, sx_0 hO, su, e3, not_true_eq_false, not_false_eq_true, if_true, if_false, or_self, and_self, true_and, and_true, or_true, true_or, false_or, or_false, false_and, and_false]
      · obtain ⟨ga, gb⟩ := not_or.mp g1
        by_cases g2 : sr i0 = sr t0
        · by_cases g3 : many.toInt < 0
          · have e3 : ¬ (6 : Int32) = 0 := by decide
            unfold xO at hX' ⊢
            simp only [r149_0, r149_1, r149_5, r149_5n, r149_7, r149_8, r149_12, r149_12n, r149_14, r149_15, r149_15n, r149_17, r149_17n, r149_19, r149_24, r149_27, r149_28, r149_31, r149_34, r149_34n, r149_36, r149_37, r149_42, r149_45, r149_45n, r149_47, r149_49, r149_54, r149_57, r149_58, r149_59, r149_62, r149_63, r149_66, r149_69, r149_69n, r149_71, r149_71n, r149_73, r149_74, r149_76, r149_81, r149_82, r149_85, r149_88, r149_89, r149_92, r149_93 (x := 0) (Or.inl rfl), r149_93 (x := 1) (Or.inr rfl), r149_93 (b2i_or _), q149_2 (c_trayAt hO hX h hi0) hc, q149_9 (c_trayAt hO hX h ht0) hc, oGF_is, WPo_some, List.getElem?_cons_succ, List.getElem?_cons_zero, kil_n, kil_i, kil_a, kil_u, kil_l, Option.toList_some, Option.toList_none, List.cons_append, List.nil_append, List.set_cons_succ, List.set_cons_zero, addm1, Nat.reduceAdd, List.length_cons, List.length_nil, Nat.reduceLT, q149_21 (c_pourSt hT1 hT2), ga, gb, g1, g2, g3, hx_0 hO, hX', pf_10150, sx_0 hO, su, e3, not_true_eq_false, not_false_eq_true, if_true, if_false, or_self, and_self, true_and, and_true, or_true, true_or, false_or, or_false, false_and, and_false]
          · have e3 : ¬ (4 : Int32) = 0 := by decide
            have g4 : ¬ ((0 ≤ i.toInt ∧ 0 ≤ j.toInt) ∧ i.toInt + many.toInt ≤ mn i0 ∧ j.toInt + many.toInt ≤ mn t0) := by
              intro z
              rw [if_neg g1, if_neg (not_not_intro g2), if_neg g3, if_neg (not_not_intro z)] at hs
              exact hs rfl
            unfold xO at hX' k1 k2 ⊢
            simp only [r149_0, r149_1, r149_5, r149_5n, r149_7, r149_8, r149_12, r149_12n, r149_14, r149_15, r149_15n, r149_17, r149_17n, r149_19, r149_24, r149_27, r149_28, r149_31, r149_34, r149_34n, r149_36, r149_37, r149_42, r149_45, r149_45n, r149_47, r149_49, r149_54, r149_57, r149_58, r149_59, r149_62, r149_63, r149_66, r149_69, r149_69n, r149_71, r149_71n, r149_73, r149_74, r149_76, r149_81, r149_82, r149_85, r149_88, r149_89, r149_92, r149_93 (x := 0) (Or.inl rfl), r149_93 (x := 1) (Or.inr rfl), r149_93 (b2i_or _), q149_2 (c_trayAt hO hX h hi0) hc, q149_9 (c_trayAt hO hX h ht0) hc, oGF_is, WPo_some, List.getElem?_cons_succ, List.getElem?_cons_zero, kil_n, kil_i, kil_a, kil_u, kil_l, Option.toList_some, Option.toList_none, List.cons_append, List.nil_append, List.set_cons_succ, List.set_cons_zero, addm1, Nat.reduceAdd, List.length_cons, List.length_nil, Nat.reduceLT, q149_21 (c_pourSt hT1 hT2), ga, gb, g1, g2, g3, g4, hx_0 hO, hX', pf_10150, sx_0 hO, su, e3, not_true_eq_false, not_false_eq_true, if_true, if_false, or_self, and_self, true_and, and_true, or_true, true_or, false_or, or_false, false_and, and_false, q149_39 (c_hasRow2 (k1 _)) (k1 _).ci, b2i_eq0]
            by_cases g5 : 0 ≤ i.toInt ∧ 0 ≤ many.toInt ∧ i.toInt + many.toInt ≤ mn i0
            · have g6 : ¬ (0 ≤ j.toInt ∧ 0 ≤ many.toInt ∧ j.toInt + many.toInt ≤ mn t0) := by omega
              have g7 : 0 ≤ many.toInt := by omega
              simp only [g7, not_true_eq_false, not_false_eq_true, if_true, if_false, or_self, and_self, true_and, and_true, or_true, true_or, false_or, or_false, false_and, and_false] at g6
              simp only [g5, g6, g7, r149_0, r149_1, r149_5, r149_5n, r149_7, r149_8, r149_12, r149_12n, r149_14, r149_15, r149_15n, r149_17, r149_17n, r149_19, r149_24, r149_27, r149_28, r149_31, r149_34, r149_34n, r149_36, r149_37, r149_42, r149_45, r149_45n, r149_47, r149_49, r149_54, r149_57, r149_58, r149_59, r149_62, r149_63, r149_66, r149_69, r149_69n, r149_71, r149_71n, r149_73, r149_74, r149_76, r149_81, r149_82, r149_85, r149_88, r149_89, r149_92, r149_93 (x := 0) (Or.inl rfl), r149_93 (x := 1) (Or.inr rfl), r149_93 (b2i_or _), not_true_eq_false, not_false_eq_true, if_true, if_false, or_self, and_self, true_and, and_true, or_true, true_or, false_or, or_false, false_and, and_false, q149_51 (c_hasRow2 (k2 _)) (k2 _).ci, b2i_eq0, oGF_is, WPo_some, List.getElem?_cons_succ, List.getElem?_cons_zero, kil_n, kil_i, kil_a, kil_u, kil_l, Option.toList_some, Option.toList_none, List.cons_append, List.nil_append, List.set_cons_succ, List.set_cons_zero, addm1, Nat.reduceAdd, List.length_cons, List.length_nil, Nat.reduceLT, su_su, e3, hx_0 hO, hX', pf_10150, sx_0 hO, su]
            · simp only [g5, not_true_eq_false, not_false_eq_true, if_true, if_false, or_self, and_self, true_and, and_true, or_true, true_or, false_or, or_false, false_and, and_false, su_su, e3]
        · have e3 : ¬ (11 : Int32) = 0 := by decide
          unfold xO at hX' ⊢
          simp only [r149_0, r149_1, r149_5, r149_5n, r149_7, r149_8, r149_12, r149_12n, r149_14, r149_15, r149_15n, r149_17, r149_17n, r149_19, r149_24, r149_27, r149_28, r149_31, r149_34, r149_34n, r149_36, r149_37, r149_42, r149_45, r149_45n, r149_47, r149_49, r149_54, r149_57, r149_58, r149_59, r149_62, r149_63, r149_66, r149_69, r149_69n, r149_71, r149_71n, r149_73, r149_74, r149_76, r149_81, r149_82, r149_85, r149_88, r149_89, r149_92, r149_93 (x := 0) (Or.inl rfl), r149_93 (x := 1) (Or.inr rfl), r149_93 (b2i_or _), q149_2 (c_trayAt hO hX h hi0) hc, q149_9 (c_trayAt hO hX h ht0) hc, oGF_is, WPo_some, List.getElem?_cons_succ, List.getElem?_cons_zero, kil_n, kil_i, kil_a, kil_u, kil_l, Option.toList_some, Option.toList_none, List.cons_append, List.nil_append, List.set_cons_succ, List.set_cons_zero, addm1, Nat.reduceAdd, List.length_cons, List.length_nil, Nat.reduceLT, q149_21 (c_pourSt hT1 hT2), g1, g2, hx_0 hO, hX', pf_10150, sx_0 hO, su, e3, not_true_eq_false, not_false_eq_true, if_true, if_false, or_self, and_self, true_and, and_true, or_true, true_or, false_or, or_false, false_and, and_false]
    · rw [poSt_1 (by omega)]
      unfold xO at hX' ⊢
      simp only [r149_0, r149_1, r149_5, r149_5n, r149_7, r149_8, r149_12, r149_12n, r149_14, r149_15, r149_15n, r149_17, r149_17n, r149_19, r149_24, r149_27, r149_28, r149_31, r149_34, r149_34n, r149_36, r149_37, r149_42, r149_45, r149_45n, r149_47, r149_49, r149_54, r149_57, r149_58, r149_59, r149_62, r149_63, r149_66, r149_69, r149_69n, r149_71, r149_71n, r149_73, r149_74, r149_76, r149_81, r149_82, r149_85, r149_88, r149_89, r149_92, r149_93 (x := 0) (Or.inl rfl), r149_93 (x := 1) (Or.inr rfl), r149_93 (b2i_or _), q149_2 (c_trayAt hO hX h hi0) hc, q149_9 (c_trayAt_no h2) hc, oGF_is, WPo_some, List.getElem?_cons_succ, List.getElem?_cons_zero, kil_n, kil_i, kil_a, kil_u, kil_l, Option.toList_some, Option.toList_none, List.cons_append, List.nil_append, List.set_cons_succ, List.set_cons_zero, addm1, Nat.reduceAdd, List.length_cons, List.length_nil, Nat.reduceLT, q149_21n1 c_pourSt_n1, hx_0 hO, hX', pf_10150, sx_0 hO, su, e2, not_true_eq_false, not_false_eq_true, if_true, if_false, or_self, and_self, true_and, and_true, or_true, true_or, false_or, or_false, false_and, and_false]
  · by_cases h2 : 0 ≤ to.toInt ∧ to.toInt ≤ 3
    · obtain ⟨t0, ht0, rfl⟩ := i32_nat (n := 4) h2.1 (by omega)
      rw [poSt_1 (by omega)]
      unfold xO at hX' ⊢
      simp only [r149_0, r149_1, r149_5, r149_5n, r149_7, r149_8, r149_12, r149_12n, r149_14, r149_15, r149_15n, r149_17, r149_17n, r149_19, r149_24, r149_27, r149_28, r149_31, r149_34, r149_34n, r149_36, r149_37, r149_42, r149_45, r149_45n, r149_47, r149_49, r149_54, r149_57, r149_58, r149_59, r149_62, r149_63, r149_66, r149_69, r149_69n, r149_71, r149_71n, r149_73, r149_74, r149_76, r149_81, r149_82, r149_85, r149_88, r149_89, r149_92, r149_93 (x := 0) (Or.inl rfl), r149_93 (x := 1) (Or.inr rfl), r149_93 (b2i_or _), q149_2 (c_trayAt_no h1) hc, q149_9 (c_trayAt hO hX h ht0) hc, oGF_is, WPo_some, List.getElem?_cons_succ, List.getElem?_cons_zero, kil_n, kil_i, kil_a, kil_u, kil_l, Option.toList_some, Option.toList_none, List.cons_append, List.nil_append, List.set_cons_succ, List.set_cons_zero, addm1, Nat.reduceAdd, List.length_cons, List.length_nil, Nat.reduceLT, q149_21n0 c_pourSt_n0, hx_0 hO, hX', pf_10150, sx_0 hO, su, e2, not_true_eq_false, not_false_eq_true, if_true, if_false, or_self, and_self, true_and, and_true, or_true, true_or, false_or, or_false, false_and, and_false]
    · rw [poSt_1 (by omega)]
      unfold xO at hX' ⊢
      simp only [r149_0, r149_1, r149_5, r149_5n, r149_7, r149_8, r149_12, r149_12n, r149_14, r149_15, r149_15n, r149_17, r149_17n, r149_19, r149_24, r149_27, r149_28, r149_31, r149_34, r149_34n, r149_36, r149_37, r149_42, r149_45, r149_45n, r149_47, r149_49, r149_54, r149_57, r149_58, r149_59, r149_62, r149_63, r149_66, r149_69, r149_69n, r149_71, r149_71n, r149_73, r149_74, r149_76, r149_81, r149_82, r149_85, r149_88, r149_89, r149_92, r149_93 (x := 0) (Or.inl rfl), r149_93 (x := 1) (Or.inr rfl), r149_93 (b2i_or _), q149_2 (c_trayAt_no h1) hc, q149_9 (c_trayAt_no h2) hc, oGF_is, WPo_some, List.getElem?_cons_succ, List.getElem?_cons_zero, kil_n, kil_i, kil_a, kil_u, kil_l, Option.toList_some, Option.toList_none, List.cons_append, List.nil_append, List.set_cons_succ, List.set_cons_zero, addm1, Nat.reduceAdd, List.length_cons, List.length_nil, Nat.reduceLT, q149_21n0n1 c_pourSt_n, hx_0 hO, hX', pf_10150, sx_0 hO, su, e2, not_true_eq_false, not_false_eq_true, if_true, if_false, or_self, and_self, true_and, and_true, or_true, true_or, false_or, or_false, false_and, and_false]
end POX2
section POM
variable {E : aEnv} {c m : Nat} {ah : aHp} {ma : Nat → Nat} {v : Nat → Value} {ai : Nat → Nat → Int32} {al : Nat → Nat → Int64} {sr : Nat → Int32} {mn : Nat → Nat} {tn : Nat → Nat → Int64}
theorem l_po (h : MO E ah m ma) {i0 t0 i j n : Nat} (hi0 : i0 < 4) (ht0 : t0 < 4) (hi : i + n ≤ 60) (hj : j + n ≤ 60) (hr : ¬ i < j ∨ ¬ i0 = t0) : ∀ z k a8, k + z = n → WP E c 206 158 [some (.ref m), some (.int (nI i0)), some (.int (nI i)), some (.int (nI t0)), some (.int (nI j)), some (.int (nI n)), some (.int 0), some (.int (nI k)), a8] [] (mh E ah m ma v ai (lu al 4 (va_cpy (al 4) (al 4) (60 * i0 + i) (60 * t0 + j) k))) (fun r1 x1 => r1 = some (.int 1) ∧ x1 = mh E ah m ma v ai (lu al 4 (va_cpy (al 4) (al 4) (60 * i0 + i) (60 * t0 + j) n)))
  | 0, k, a8, hk => by
    have h1 : nI n ≤ nI k := nI_le (by omega) (by omega)
    rw [show k = n by omega, r206_158]
    simp only [r206_160, r206_162, r206_219, r206_220 (x := 0) (Or.inl rfl), r206_220 (x := 1) (Or.inr rfl), r206_220 (b2i_or _), WPo_some, List.getElem?_cons_succ, List.getElem?_cons_zero, kil_n, kil_i, kil_a, kil_u, kil_l, Option.toList_some, Option.toList_none, List.cons_append, List.nil_append, List.set_cons_succ, List.set_cons_zero, addm1, Nat.reduceAdd, List.length_cons, List.length_nil, Nat.reduceLT, h1, not_true_eq_false, not_false_eq_true, if_true, if_false, or_self, and_self, true_and, and_true, or_true, true_or, false_or, or_false, false_and, and_false, show nI n ≤ nI n by simp]
  | z + 1, k, a8, hk => by
    have h1 : ¬ nI n ≤ nI k := nI_ge (by omega) (by omega)
    have ih := l_po h hi0 ht0 hi hj hr z (k + 1) (some (.int (nI k))) (by omega)
    rw [r206_158]
    simp only [r206_160, r206_162, r206_165, r206_167, r206_170, r206_172, r206_173, r206_174, r206_176, r206_177, r206_180, r206_182, r206_184, r206_185, r206_188, r206_190, r206_191, r206_192, r206_194, r206_195, r206_197, r206_198, r206_199, r206_202, r206_204, r206_205, r206_206, r206_207, r206_208, r206_210, r206_211, r206_212, r206_213, r206_216, mh_o h, gm_4, WPo_some, List.getElem?_cons_succ, List.getElem?_cons_zero, kil_n, kil_i, kil_a, kil_u, kil_l, Option.toList_some, Option.toList_none, List.cons_append, List.nil_append, List.set_cons_succ, List.set_cons_zero, addm1, Nat.reduceAdd, List.length_cons, List.length_nil, Nat.reduceLT, h1, mul60, nI_add, gL, pL, hm_4 h, sm_4 h, nI_pos (show 60 * i0 + i + k < 2 ^ 31 by omega), nI_clamp (show 60 * i0 + i + k < 2 ^ 31 by omega), show ¬ 240 ≤ 60 * i0 + i + k by omega, nI_pos (show 60 * t0 + j + k < 2 ^ 31 by omega), nI_clamp (show 60 * t0 + j + k < 2 ^ 31 by omega), show ¬ 240 ≤ 60 * t0 + j + k by omega, nI_1, not_true_eq_false, not_false_eq_true, if_true, if_false, or_self, and_self, true_and, and_true, or_true, true_or, false_or, or_false, false_and, and_false]
    have e1 : lu (lu al 4 (va_cpy (al 4) (al 4) (60 * i0 + i) (60 * t0 + j) k)) 4 (vp_updL (lu al 4 (va_cpy (al 4) (al 4) (60 * i0 + i) (60 * t0 + j) k) 4) (60 * t0 + j + k) (lu al 4 (va_cpy (al 4) (al 4) (60 * i0 + i) (60 * t0 + j) k) 4 (60 * i0 + i + k))) = lu al 4 (va_cpy (al 4) (al 4) (60 * i0 + i) (60 * t0 + j) (k + 1)) := by
      funext a q
      simp only [lu, if_true]
      split
      · unfold vp_updL va_cpy
        by_cases e : q = 60 * t0 + j + k
        · subst e
          rw [if_pos rfl, if_neg (by omega), if_pos (by omega)]
          congr 1
          omega
        · rw [if_neg e]
          by_cases e2 : 60 * t0 + j ≤ q ∧ q < 60 * t0 + j + k
          · rw [if_pos e2, if_pos (by omega)]
          · rw [if_neg e2, if_neg (by omega)]
      · rfl
    rw [e1]
    exact ih
noncomputable def cpD (f : Nat → Int64) (s t lo hi : Nat) : Nat → Int64 := fun q => if t + lo ≤ q ∧ q < t + hi then f (s + (q - t)) else f q
theorem l_po2 (h : MO E ah m ma) {i0 t0 i j n : Nat} (hi0 : i0 < 4) (ht0 : t0 < 4) (hi : i + n ≤ 60) (hj : j + n ≤ 60) (hr : i < j) : ∀ z k a8, k + z = n → WP E c 206 158 [some (.ref m), some (.int (nI i0)), some (.int (nI i)), some (.int (nI t0)), some (.int (nI j)), some (.int (nI n)), some (.int 1), some (.int (nI k)), a8] [] (mh E ah m ma v ai (lu al 4 (cpD (al 4) (60 * i0 + i) (60 * t0 + j) z n))) (fun r1 x1 => r1 = some (.int 1) ∧ x1 = mh E ah m ma v ai (lu al 4 (va_cpy (al 4) (al 4) (60 * i0 + i) (60 * t0 + j) n)))
  | 0, k, a8, hk => by
    have e1 : cpD (al 4) (60 * i0 + i) (60 * t0 + j) 0 n = va_cpy (al 4) (al 4) (60 * i0 + i) (60 * t0 + j) n := by
      funext q
      simp [cpD, va_cpy]
    rw [show k = n by omega, r206_158, e1]
    simp only [r206_160, r206_162, r206_219, r206_220 (x := 0) (Or.inl rfl), r206_220 (x := 1) (Or.inr rfl), r206_220 (b2i_or _), WPo_some, List.getElem?_cons_succ, List.getElem?_cons_zero, kil_n, kil_i, kil_a, kil_u, kil_l, Option.toList_some, Option.toList_none, List.cons_append, List.nil_append, List.set_cons_succ, List.set_cons_zero, addm1, Nat.reduceAdd, List.length_cons, List.length_nil, Nat.reduceLT, not_true_eq_false, not_false_eq_true, if_true, if_false, or_self, and_self, true_and, and_true, or_true, true_or, false_or, or_false, false_and, and_false, show nI n ≤ nI n by simp]
  | z + 1, k, a8, hk => by
    have h1 : ¬ nI n ≤ nI k := nI_ge (by omega) (by omega)
    have ih := l_po2 h hi0 ht0 hi hj hr z (k + 1) (some (.int (nI z))) (by omega)
    have h10 : ¬ (1 : Int32) = 0 := by decide
    have e9 : nI n - 1 - nI k = nI z := by
      rw [show (1 : Int32) = nI 1 by rfl, pk_sub (by omega), pk_sub (by omega)]
      congr 1
      omega
    rw [r206_158]
    simp only [r206_160, r206_162, r206_165, r206_167, r206_170, r206_172, r206_173, r206_174, r206_176, r206_177, r206_180, r206_182, r206_184, r206_185, r206_188, r206_190, r206_191, r206_192, r206_194, r206_195, r206_197, r206_198, r206_199, r206_202, r206_204, r206_205, r206_206, r206_207, r206_208, r206_210, r206_211, r206_212, r206_213, r206_216, mh_o h, gm_4, WPo_some, List.getElem?_cons_succ, List.getElem?_cons_zero, kil_n, kil_i, kil_a, kil_u, kil_l, Option.toList_some, Option.toList_none, List.cons_append, List.nil_append, List.set_cons_succ, List.set_cons_zero, addm1, Nat.reduceAdd, List.length_cons, List.length_nil, Nat.reduceLT, h1, h10, e9, mul60, nI_add, gL, pL, hm_4 h, sm_4 h, nI_pos (show 60 * i0 + i + z < 2 ^ 31 by omega), nI_clamp (show 60 * i0 + i + z < 2 ^ 31 by omega), show ¬ 240 ≤ 60 * i0 + i + z by omega, nI_pos (show 60 * t0 + j + z < 2 ^ 31 by omega), nI_clamp (show 60 * t0 + j + z < 2 ^ 31 by omega), show ¬ 240 ≤ 60 * t0 + j + z by omega, nI_1, not_true_eq_false, not_false_eq_true, if_true, if_false, or_self, and_self, true_and, and_true, or_true, true_or, false_or, or_false, false_and, and_false]
    have e1 : lu (lu al 4 (cpD (al 4) (60 * i0 + i) (60 * t0 + j) (z + 1) n)) 4 (vp_updL (lu al 4 (cpD (al 4) (60 * i0 + i) (60 * t0 + j) (z + 1) n) 4) (60 * t0 + j + z) (lu al 4 (cpD (al 4) (60 * i0 + i) (60 * t0 + j) (z + 1) n) 4 (60 * i0 + i + z))) = lu al 4 (cpD (al 4) (60 * i0 + i) (60 * t0 + j) z n) := by
      funext a q
      simp only [lu, if_true]
      split
      · unfold vp_updL cpD
        by_cases e : q = 60 * t0 + j + z
        · subst e
          rw [if_pos rfl, if_neg (by omega), if_pos (by omega)]
          congr 1
          omega
        · rw [if_neg e]
          by_cases e2 : 60 * t0 + j + (z + 1) ≤ q ∧ q < 60 * t0 + j + n
          · rw [if_pos e2, if_pos (by omega)]
          · rw [if_neg e2, if_neg (by omega)]
      · rfl
    rw [e1]
    exact ih
theorem m_pour_ok (h : MO E ah m ma) (hm : TM ai al sr mn tn) {i0 t0 i j n : Nat} (hi0 : i0 < 4) (ht0 : t0 < 4) (g1 : ¬ sr i0 = -1) (g2 : ¬ sr t0 = -1) (g3 : sr i0 = sr t0) (g4 : i + n ≤ mn i0) (g5 : j + n ≤ mn t0) : EV E (c + 1) 206 [.ref m, .int (nI i0), .int (nI i), .int (nI t0), .int (nI j), .int (nI n)] (mh E ah m ma v ai al) (some (.int 1)) (mh E ah m ma (vu (vu v 1 (.int 0)) 0 (.int 0)) ai (lu al 4 (va_cpy (al 4) (al 4) (60 * i0 + i) (60 * t0 + j) n))) := by
  refine e206 ?_
  obtain ⟨a1, a2, a3⟩ := hm i0 hi0
  obtain ⟨b1, b2, b3⟩ := hm t0 ht0
  rw [if_neg g1] at a2
  rw [if_neg g2] at b2
  simp (disch := first | assumption | omega | decide | (simp only [List.length_cons, List.length_nil, Nat.reduceAdd, Nat.reduceLT]; done)) only [r206_0, r206_1, r206_2, r206_5, r206_6, r206_7, r206_10, r206_11, r206_14, r206_15, r206_16, r206_19, r206_20, r206_23, r206_24, r206_25, r206_28, r206_29, r206_33 (x := 0) (Or.inl rfl), r206_33 (x := 1) (Or.inr rfl), r206_33 (b2i_or _), r206_34, r206_35, r206_38, r206_39, r206_40, r206_43, r206_44, r206_47, r206_48, r206_49, r206_52, r206_53, r206_57 (x := 0) (Or.inl rfl), r206_57 (x := 1) (Or.inr rfl), r206_57 (b2i_or _), r206_58, r206_59, r206_62, r206_63, r206_64, r206_65, r206_68, r206_69, r206_70, r206_73, r206_74, r206_79 (x := 0) (Or.inl rfl), r206_79 (x := 1) (Or.inr rfl), r206_79 (b2i_or _), r206_80, r206_82, r206_85, r206_86, r206_91 (x := 0) (Or.inl rfl), r206_91 (x := 1) (Or.inr rfl), r206_91 (b2i_or _), r206_92, r206_93, r206_96, r206_98, r206_101, r206_102, r206_103, r206_105, r206_106, r206_107, r206_108, r206_111, r206_112, r206_113, r206_114, r206_115, r206_118, r206_120, r206_121, r206_123, r206_124, r206_125, r206_126, r206_129, r206_130, r206_131, r206_132, r206_133, mh_o h, pm_0, pm_1, gm_2, gm_3, WPo_some, List.getElem?_cons_succ, List.getElem?_cons_zero, kil_n, kil_i, kil_a, kil_u, kil_l, Option.toList_some, Option.toList_none, List.cons_append, List.nil_append, List.set_cons_succ, List.set_cons_zero, addm1, Nat.reduceAdd, List.length_cons, List.length_nil, Nat.reduceLT, mh_put h, not_true_eq_false, not_false_eq_true, if_true, if_false, or_self, and_self, true_and, and_true, or_true, true_or, false_or, or_false, false_and, and_false, gI, hm_2 h, hm_3 h, a2.1, b2.1, a2.2.1, b2.2.1, g3, nI_clamp, nI_toInt, nI_leL, nI_Lle, nI_ltL, nI_Llt, nI_eqL, nI_Leq, nI_leE, nI_ltE, nI_eqE, nI_eqM, nI_add, nI_addL, nI_Ladd, nI_mulL, nI_Lmul, pk_mul, pk_sub, nI_subL, nI_Lsub, i2l_nI, Int.toNat_natCast, Nat.not_lt_zero, Nat.zero_le, ifT, ifF, lg_cmp_lt, lg_cmp_le, lg_cmp_gt, i64_lt, i64_le, i2l_add]
  by_cases hr : i < j
  · simp (disch := first | assumption | omega | decide | (simp only [List.length_cons, List.length_nil, Nat.reduceAdd, Nat.reduceLT]; done)) only [r206_142, r206_143, r206_145, r206_148, r206_149, r206_152, r206_153, r206_155, r206_156, WPo_some, List.getElem?_cons_succ, List.getElem?_cons_zero, kil_n, kil_i, kil_a, kil_u, kil_l, Option.toList_some, Option.toList_none, List.cons_append, List.nil_append, List.set_cons_succ, List.set_cons_zero, addm1, Nat.reduceAdd, List.length_cons, List.length_nil, Nat.reduceLT, not_true_eq_false, not_false_eq_true, if_true, if_false, or_self, and_self, true_and, and_true, or_true, true_or, false_or, or_false, false_and, and_false, nI_clamp, nI_toInt, nI_leL, nI_Lle, nI_ltL, nI_Llt, nI_eqL, nI_Leq, nI_leE, nI_ltE, nI_eqE, nI_eqM, nI_add, nI_addL, nI_Ladd, nI_mulL, nI_Lmul, pk_mul, pk_sub, nI_subL, nI_Lsub, i2l_nI, Int.toNat_natCast, Nat.not_lt_zero, Nat.zero_le, ifT, ifF]
    have h1 := l_po2 (E := E) (c := c + 1) (ah := ah) (m := m) (ma := ma) (v := vu (vu v 1 (.int 0)) 0 (.int 0)) (ai := ai) (al := al) h (i := i) (j := j) (n := n) hi0 ht0 (by omega) (by omega) hr n 0 none (by omega)
    have e1 : lu al 4 (cpD (al 4) (60 * i0 + i) (60 * t0 + j) n n) = al := by
      have : cpD (al 4) (60 * i0 + i) (60 * t0 + j) n n = al 4 := by
        funext q
        unfold cpD
        rw [if_neg (by omega)]
      rw [this, lu_self]
    rw [e1] at h1
    exact h1
  · simp (disch := first | assumption | omega | decide | (simp only [List.length_cons, List.length_nil, Nat.reduceAdd, Nat.reduceLT]; done)) only [r206_142, r206_143, r206_145, r206_148, r206_149, r206_152, r206_153, r206_155, r206_156, WPo_some, List.getElem?_cons_succ, List.getElem?_cons_zero, kil_n, kil_i, kil_a, kil_u, kil_l, Option.toList_some, Option.toList_none, List.cons_append, List.nil_append, List.set_cons_succ, List.set_cons_zero, addm1, Nat.reduceAdd, List.length_cons, List.length_nil, Nat.reduceLT, not_true_eq_false, not_false_eq_true, if_true, if_false, or_self, and_self, true_and, and_true, or_true, true_or, false_or, or_false, false_and, and_false, nI_clamp, nI_toInt, nI_leL, nI_Lle, nI_ltL, nI_Llt, nI_eqL, nI_Leq, nI_leE, nI_ltE, nI_eqE, nI_eqM, nI_add, nI_addL, nI_Ladd, nI_mulL, nI_Lmul, pk_mul, pk_sub, nI_subL, nI_Lsub, i2l_nI, Int.toNat_natCast, Nat.not_lt_zero, Nat.zero_le, ifT, ifF]
    have h1 := l_po (E := E) (c := c + 1) (ah := ah) (m := m) (ma := ma) (v := vu (vu v 1 (.int 0)) 0 (.int 0)) (ai := ai) (al := al) h (i := i) (j := j) (n := n) hi0 ht0 (by omega) (by omega) (Or.inl hr) n 0 none (by omega)
    have e1 : lu al 4 (va_cpy (al 4) (al 4) (60 * i0 + i) (60 * t0 + j) 0) = al := by
      have : va_cpy (al 4) (al 4) (60 * i0 + i) (60 * t0 + j) 0 = al 4 := by
        funext q
        unfold va_cpy
        rw [if_neg (by omega)]
      rw [this, lu_self]
    rw [e1] at h1
    exact h1
theorem TM.pour (hm : TM ai al sr mn tn) {i0 t0 i j n : Nat} (hi0 : i0 < 4) (ht0 : t0 < 4) (g4 : i + n ≤ mn i0) (g5 : j + n ≤ mn t0) : TM ai (lu al 4 (va_cpy (al 4) (al 4) (60 * i0 + i) (60 * t0 + j) n)) sr mn (fnu tn t0 (va_cpy (tn i0) (tn t0) i j n)) := by
  intro a ha
  obtain ⟨m1, m2, m3⟩ := hm a ha
  refine ⟨m1, m2, fun k hk => ?_⟩
  have hi1 := (hm i0 hi0).1
  have hi2 := (hm t0 ht0).1
  have hi3 := (hm i0 hi0).2.2
  simp only [lu, if_true]
  by_cases e : a = t0
  · subst e
    simp only [fnu, if_true]
    unfold va_cpy
    by_cases e2 : j ≤ k ∧ k < j + n
    · rw [if_pos (by omega), if_pos e2, ← hi3 _ (by omega)]
      congr 1
      omega
    · rw [if_neg (by omega), if_neg e2, m3 k hk]
  · simp only [fnu, e, if_false]
    unfold va_cpy
    rw [if_neg (by omega), m3 k hk]
theorem m_pour_no (h : MO E ah m ma) (hm : TM ai al sr mn tn) {tray i to j many : Int32} (hs : ¬ poSt sr mn tray i to j many = 0) : EV E (c + 1) 206 [.ref m, .int tray, .int i, .int to, .int j, .int many] (mh E ah m ma v ai al) (some (.int 0)) (mh E ah m ma (vu (vu v 1 (.int 0)) 0 (.int (poSt sr mn tray i to j many))) ai al) := by
  refine e206 ?_
  by_cases h0 : (0 ≤ tray.toInt ∧ tray.toInt ≤ 3) ∧ 0 ≤ to.toInt ∧ to.toInt ≤ 3
  · obtain ⟨i0, hi0, rfl⟩ := i32_nat (n := 4) h0.1.1 (by omega)
    obtain ⟨t0, ht0, rfl⟩ := i32_nat (n := 4) h0.2.1 (by omega)
    obtain ⟨a1, a2, a3⟩ := hm i0 hi0
    obtain ⟨b1, b2, b3⟩ := hm t0 ht0
    rw [poSt_is hi0 ht0] at hs ⊢
    by_cases g1 : sr i0 = -1
    · rw [if_pos g1] at a2
      simp (disch := first | assumption | omega | decide | (simp only [List.length_cons, List.length_nil, Nat.reduceAdd, Nat.reduceLT]; done)) only [r206_0, r206_1, r206_2, r206_5, r206_6, r206_7, r206_10, r206_11, r206_14, r206_15, r206_16, r206_19, r206_20, r206_23, r206_24, r206_25, r206_28, r206_29, r206_33 (x := 0) (Or.inl rfl), r206_33 (x := 1) (Or.inr rfl), r206_33 (b2i_or _), r206_34, r206_35, r206_38, r206_39, r206_40, r206_43, r206_44, r206_47, r206_48, r206_49, r206_52, r206_53, r206_57 (x := 0) (Or.inl rfl), r206_57 (x := 1) (Or.inr rfl), r206_57 (b2i_or _), mh_o h, pm_0, pm_1, gm_2, gm_3, WPo_some, List.getElem?_cons_succ, List.getElem?_cons_zero, kil_n, kil_i, kil_a, kil_u, kil_l, Option.toList_some, Option.toList_none, List.cons_append, List.nil_append, List.set_cons_succ, List.set_cons_zero, addm1, Nat.reduceAdd, List.length_cons, List.length_nil, Nat.reduceLT, mh_put h, not_true_eq_false, not_false_eq_true, if_true, if_false, or_self, and_self, true_and, and_true, or_true, true_or, false_or, or_false, false_and, and_false, gI, hm_2 h, hm_3 h, a2.1, g1, nI_clamp, nI_toInt, nI_leL, nI_Lle, nI_ltL, nI_Llt, nI_eqL, nI_Leq, nI_leE, nI_ltE, nI_eqE, nI_eqM, nI_add, nI_addL, nI_Ladd, nI_mulL, nI_Lmul, pk_mul, pk_sub, nI_subL, nI_Lsub, i2l_nI, Int.toNat_natCast, Nat.not_lt_zero, Nat.zero_le, ifT, ifF, q206_54 (m_no h) h.ci, vu_vu, show (-1 : Int32) < 0 by decide]
    · by_cases g2 : sr t0 = -1
      · rw [if_neg g1] at a2
        rw [if_pos g2] at b2
        simp (disch := first | assumption | omega | decide | (simp only [List.length_cons, List.length_nil, Nat.reduceAdd, Nat.reduceLT]; done)) only [r206_0, r206_1, r206_2, r206_5, r206_6, r206_7, r206_10, r206_11, r206_14, r206_15, r206_16, r206_19, r206_20, r206_23, r206_24, r206_25, r206_28, r206_29, r206_33 (x := 0) (Or.inl rfl), r206_33 (x := 1) (Or.inr rfl), r206_33 (b2i_or _), r206_34, r206_35, r206_38, r206_39, r206_40, r206_43, r206_44, r206_47, r206_48, r206_49, r206_52, r206_53, r206_57 (x := 0) (Or.inl rfl), r206_57 (x := 1) (Or.inr rfl), r206_57 (b2i_or _), mh_o h, pm_0, pm_1, gm_2, gm_3, WPo_some, List.getElem?_cons_succ, List.getElem?_cons_zero, kil_n, kil_i, kil_a, kil_u, kil_l, Option.toList_some, Option.toList_none, List.cons_append, List.nil_append, List.set_cons_succ, List.set_cons_zero, addm1, Nat.reduceAdd, List.length_cons, List.length_nil, Nat.reduceLT, mh_put h, not_true_eq_false, not_false_eq_true, if_true, if_false, or_self, and_self, true_and, and_true, or_true, true_or, false_or, or_false, false_and, and_false, gI, hm_2 h, hm_3 h, a2.1, b2.1, g1, g2, nI_clamp, nI_toInt, nI_leL, nI_Lle, nI_ltL, nI_Llt, nI_eqL, nI_Leq, nI_leE, nI_ltE, nI_eqE, nI_eqM, nI_add, nI_addL, nI_Ladd, nI_mulL, nI_Lmul, pk_mul, pk_sub, nI_subL, nI_Lsub, i2l_nI, Int.toNat_natCast, Nat.not_lt_zero, Nat.zero_le, ifT, ifF, q206_54 (m_no h) h.ci, vu_vu, show ¬ (0 : Int32) ≤ -1 by decide]
      · rw [if_neg g1] at a2
        rw [if_neg g2] at b2
        have i1 := i32_rg i
        have i2 := i32_rg j
        have i3 := i32_rg many
        by_cases g3 : sr i0 = sr t0
        · by_cases g4 : many < 0
          · have g4' : many.toInt < 0 := by simpa only [i32_lt, i32_le, i64_lt, i64_le, i2l_toInt, Int32.reduceToInt, Int64.reduceToInt] using g4
            have g5 : ¬ 0 ≤ many := by simp only [i32_lt, i32_le, i64_lt, i64_le, i2l_toInt, Int32.reduceToInt, Int64.reduceToInt]; omega
            simp (disch := first | assumption | omega | decide | (simp only [List.length_cons, List.length_nil, Nat.reduceAdd, Nat.reduceLT]; done)) only [r206_0, r206_1, r206_2, r206_5, r206_6, r206_7, r206_10, r206_11, r206_14, r206_15, r206_16, r206_19, r206_20, r206_23, r206_24, r206_25, r206_28, r206_29, r206_33 (x := 0) (Or.inl rfl), r206_33 (x := 1) (Or.inr rfl), r206_33 (b2i_or _), r206_34, r206_35, r206_38, r206_39, r206_40, r206_43, r206_44, r206_47, r206_48, r206_49, r206_52, r206_53, r206_57 (x := 0) (Or.inl rfl), r206_57 (x := 1) (Or.inr rfl), r206_57 (b2i_or _), r206_58, r206_59, r206_62, r206_63, r206_64, r206_65, r206_68, r206_69, r206_70, r206_73, r206_74, r206_79 (x := 0) (Or.inl rfl), r206_79 (x := 1) (Or.inr rfl), r206_79 (b2i_or _), r206_80, r206_82, r206_85, r206_86, r206_91 (x := 0) (Or.inl rfl), r206_91 (x := 1) (Or.inr rfl), r206_91 (b2i_or _), mh_o h, pm_0, pm_1, gm_2, gm_3, WPo_some, List.getElem?_cons_succ, List.getElem?_cons_zero, kil_n, kil_i, kil_a, kil_u, kil_l, Option.toList_some, Option.toList_none, List.cons_append, List.nil_append, List.set_cons_succ, List.set_cons_zero, addm1, Nat.reduceAdd, List.length_cons, List.length_nil, Nat.reduceLT, mh_put h, not_true_eq_false, not_false_eq_true, if_true, if_false, or_self, and_self, true_and, and_true, or_true, true_or, false_or, or_false, false_and, and_false, gI, hm_2 h, hm_3 h, a2.1, b2.1, a2.2.1, b2.2.1, g2, g3, g4', g5, nI_clamp, nI_toInt, nI_leL, nI_Lle, nI_ltL, nI_Llt, nI_eqL, nI_Leq, nI_leE, nI_ltE, nI_eqE, nI_eqM, nI_add, nI_addL, nI_Ladd, nI_mulL, nI_Lmul, pk_mul, pk_sub, nI_subL, nI_Lsub, i2l_nI, Int.toNat_natCast, Nat.not_lt_zero, Nat.zero_le, ifT, ifF, q206_88 (m_no h) h.ci, vu_vu]
          · have g4' : ¬ many.toInt < 0 := by simpa only [i32_lt, i32_le, i64_lt, i64_le, i2l_toInt, Int32.reduceToInt, Int64.reduceToInt] using g4
            have g5 : 0 ≤ many := by simp only [i32_lt, i32_le, i64_lt, i64_le, i2l_toInt, Int32.reduceToInt, Int64.reduceToInt]; omega
            have g6 : ¬ ((0 ≤ i.toInt ∧ 0 ≤ j.toInt) ∧ i.toInt + many.toInt ≤ mn i0 ∧ j.toInt + many.toInt ≤ mn t0) := by
              intro z
              rw [if_neg (by simp [g1, g2]), if_neg (not_not_intro g3), if_neg g4', if_neg (not_not_intro z)] at hs
              exact hs rfl
            simp (disch := first | assumption | omega | decide | (simp only [List.length_cons, List.length_nil, Nat.reduceAdd, Nat.reduceLT]; done)) only [r206_0, r206_1, r206_2, r206_5, r206_6, r206_7, r206_10, r206_11, r206_14, r206_15, r206_16, r206_19, r206_20, r206_23, r206_24, r206_25, r206_28, r206_29, r206_33 (x := 0) (Or.inl rfl), r206_33 (x := 1) (Or.inr rfl), r206_33 (b2i_or _), r206_34, r206_35, r206_38, r206_39, r206_40, r206_43, r206_44, r206_47, r206_48, r206_49, r206_52, r206_53, r206_57 (x := 0) (Or.inl rfl), r206_57 (x := 1) (Or.inr rfl), r206_57 (b2i_or _), r206_58, r206_59, r206_62, r206_63, r206_64, r206_65, r206_68, r206_69, r206_70, r206_73, r206_74, r206_79 (x := 0) (Or.inl rfl), r206_79 (x := 1) (Or.inr rfl), r206_79 (b2i_or _), r206_80, r206_82, r206_85, r206_86, r206_91 (x := 0) (Or.inl rfl), r206_91 (x := 1) (Or.inr rfl), r206_91 (b2i_or _), r206_92, r206_93, r206_96, r206_98, r206_101, r206_102, r206_103, r206_105, r206_106, r206_107, r206_108, r206_111, r206_112, r206_113, r206_114, r206_115, r206_118, r206_120, r206_121, r206_123, r206_124, r206_125, r206_126, r206_129, r206_130, r206_131, r206_132, r206_133, r206_136, r206_137, r206_141 (x := 0) (Or.inl rfl), r206_141 (x := 1) (Or.inr rfl), r206_141 (b2i_or _), mh_o h, pm_0, pm_1, gm_2, gm_3, WPo_some, List.getElem?_cons_succ, List.getElem?_cons_zero, kil_n, kil_i, kil_a, kil_u, kil_l, Option.toList_some, Option.toList_none, List.cons_append, List.nil_append, List.set_cons_succ, List.set_cons_zero, addm1, Nat.reduceAdd, List.length_cons, List.length_nil, Nat.reduceLT, mh_put h, not_true_eq_false, not_false_eq_true, if_true, if_false, or_self, and_self, true_and, and_true, or_true, true_or, false_or, or_false, false_and, and_false, gI, hm_2 h, hm_3 h, a2.1, b2.1, a2.2.1, b2.2.1, g2, g3, g4', g5, g6, nI_clamp, nI_toInt, nI_leL, nI_Lle, nI_ltL, nI_Llt, nI_eqL, nI_Leq, nI_leE, nI_ltE, nI_eqE, nI_eqM, nI_add, nI_addL, nI_Ladd, nI_mulL, nI_Lmul, pk_mul, pk_sub, nI_subL, nI_Lsub, i2l_nI, Int.toNat_natCast, Nat.not_lt_zero, Nat.zero_le, ifT, ifF, q206_138 (m_no h) h.ci, vu_vu, lg_cmp_lt, lg_cmp_le, lg_cmp_gt, i64_lt, i64_le, i2l_add, i2l_toInt]
            simp only [i32_lt, i32_le, Int32.reduceToInt]
            repeat' split
            all_goals first | exact trivial | (exfalso; omega)
        · simp (disch := first | assumption | omega | decide | (simp only [List.length_cons, List.length_nil, Nat.reduceAdd, Nat.reduceLT]; done)) only [r206_0, r206_1, r206_2, r206_5, r206_6, r206_7, r206_10, r206_11, r206_14, r206_15, r206_16, r206_19, r206_20, r206_23, r206_24, r206_25, r206_28, r206_29, r206_33 (x := 0) (Or.inl rfl), r206_33 (x := 1) (Or.inr rfl), r206_33 (b2i_or _), r206_34, r206_35, r206_38, r206_39, r206_40, r206_43, r206_44, r206_47, r206_48, r206_49, r206_52, r206_53, r206_57 (x := 0) (Or.inl rfl), r206_57 (x := 1) (Or.inr rfl), r206_57 (b2i_or _), r206_58, r206_59, r206_62, r206_63, r206_64, r206_65, r206_68, r206_69, r206_70, r206_73, r206_74, r206_79 (x := 0) (Or.inl rfl), r206_79 (x := 1) (Or.inr rfl), r206_79 (b2i_or _), mh_o h, pm_0, pm_1, gm_2, gm_3, WPo_some, List.getElem?_cons_succ, List.getElem?_cons_zero, kil_n, kil_i, kil_a, kil_u, kil_l, Option.toList_some, Option.toList_none, List.cons_append, List.nil_append, List.set_cons_succ, List.set_cons_zero, addm1, Nat.reduceAdd, List.length_cons, List.length_nil, Nat.reduceLT, mh_put h, not_true_eq_false, not_false_eq_true, if_true, if_false, or_self, and_self, true_and, and_true, or_true, true_or, false_or, or_false, false_and, and_false, gI, hm_2 h, hm_3 h, a2.1, b2.1, a2.2.1, b2.2.1, g1, g2, g3, nI_clamp, nI_toInt, nI_leL, nI_Lle, nI_ltL, nI_Llt, nI_eqL, nI_Leq, nI_leE, nI_ltE, nI_eqE, nI_eqM, nI_add, nI_addL, nI_Ladd, nI_mulL, nI_Lmul, pk_mul, pk_sub, nI_subL, nI_Lsub, i2l_nI, Int.toNat_natCast, Nat.not_lt_zero, Nat.zero_le, ifT, ifF, q206_76 (m_no h) h.ci, vu_vu]
  · rw [poSt_1 h0]
    simp only [r206_0, r206_1, r206_2, r206_5, r206_6, r206_7, r206_10, r206_11, r206_14, r206_15, r206_16, r206_19, r206_20, r206_23, r206_24, r206_25, r206_28, r206_29, r206_33 (x := 0) (Or.inl rfl), r206_33 (x := 1) (Or.inr rfl), r206_33 (b2i_or _), mh_o h, pm_0, pm_1, WPo_some, List.getElem?_cons_succ, List.getElem?_cons_zero, kil_n, kil_i, kil_a, kil_u, kil_l, Option.toList_some, Option.toList_none, List.cons_append, List.nil_append, List.set_cons_succ, List.set_cons_zero, addm1, Nat.reduceAdd, List.length_cons, List.length_nil, Nat.reduceLT, mh_put h, q206_30 (m_no h) h.ci, vu_vu, i32_lt, i32_le, i64_lt, i64_le, i2l_toInt, Int32.reduceToInt, Int64.reduceToInt]
    repeat' split
    all_goals first | exact trivial | exact ⟨rfl, rfl⟩ | (exfalso; omega) | (exfalso; simp_all; done) | (simp_all; done)
end POM

/-! The model: turns, turnsAt -/
theorem itG_s {G : Nat → Nat} : ∀ k N, itG G (k + 1) N = nxG G (itG G k N)
  | 0, _ => rfl
  | k + 1, N => by rw [itG, itG_s k (nxG G N), ← itG]
theorem step_C {G : Nat → Nat} (hG : GG G) {V k c : Nat} (hV : V < 1000000000000) (hk : k ≤ 12) (hc : c ≤ 1) : (V / 10 ^ k % 10 + c ≤ 9 ∧ V / 10 ^ k % 10 + c + Av G V (k + 1) 0 = Av G V k c → figG G (V / 10 ^ k + c) = nI (V / 10 ^ k % 10 + c) ∧ nxG G (V / 10 ^ k + c) = V / 10 ^ (k + 1)) ∧ (¬ (V / 10 ^ k % 10 + c ≤ 9 ∧ V / 10 ^ k % 10 + c + Av G V (k + 1) 0 = Av G V k c) → figG G (V / 10 ^ k + c) = nI (V / 10 ^ k % 10 + c) - 10 ∧ nxG G (V / 10 ^ k + c) = V / 10 ^ (k + 1) + 1) := by
  have hd : V / 10 ^ k ≤ V := Nat.div_le_self _ _
  have hs : V / 10 ^ k / 10 = V / 10 ^ (k + 1) := by rw [Nat.div_div_eq_div_mul, Nat.pow_succ]
  have a1 : Av G V k c = G (V / 10 ^ k + c) := if_neg (by omega)
  have a2 : Av G V (k + 1) 0 = G (V / 10 ^ (k + 1)) := by
    by_cases k12 : k = 12
    · subst k12
      have e0 : V / 10 ^ (12 + 1) = 0 := Nat.div_eq_of_lt (by
        have : (10 : Nat) ^ (12 + 1) = 10000000000000 := by decide
        omega)
      rw [e0, hG.1]
      rfl
    · exact if_neg (by omega)
  rw [a1, a2]
  generalize V / 10 ^ (k + 1) = Y at hs ⊢
  generalize V / 10 ^ k = X at hd hs ⊢
  have g1 := hG.2.2.1 (X + c) (by omega)
  have g2 := hG.2.2.2 (Y + 1) (by omega)
  have g3 := hG.2.2.2 (X + c) (by omega)
  by_cases w9 : X % 10 + c ≤ 9
  · have e1 : (X + c) % 10 = X % 10 + c := by omega
    have e2 : (X + c) / 10 = Y := by omega
    have lo : lowG G (X + c) ↔ ¬ X % 10 + c + G Y = G (X + c) := by
      unfold lowG
      rw [e1, e2] at g1
      rw [e1, e2]
      by_cases w0 : X % 10 + c = 0
      · rw [if_pos w0] at g1
        omega
      · rw [if_neg w0] at g1
        omega
    unfold figG nxG
    rw [e1, e2]
    constructor
    · intro h
      rw [if_neg (fun y => (lo.mp y) h.2), if_neg (fun y => (lo.mp y) h.2)]
      exact ⟨rfl, rfl⟩
    · intro h
      have l := lo.mpr (fun y => h ⟨w9, y⟩)
      rw [if_pos l, if_pos l]
      exact ⟨rfl, rfl⟩
  · have e1 : (X + c) % 10 = 0 := by omega
    have e2 : (X + c) / 10 = Y + 1 := by omega
    have lo : ¬ lowG G (X + c) := fun y => y.1 e1
    refine ⟨fun h => absurd h.1 w9, fun _ => ?_⟩
    unfold figG nxG
    rw [if_neg lo, if_neg lo, e1, e2, show X % 10 + c = 10 by omega]
    exact ⟨by decide, rfl⟩
section TN2
variable {E : aEnv} {c m : Nat} {ah : aHp} {ma : Nat → Nat} {v : Nat → Value} {ai : Nat → Nat → Int32} {al : Nat → Nat → Int64} {V : Nat}
theorem l_fC (h : MO E ah m ma) {G : Nat → Nat} (hG : GG G) (hV : V < 1000000000000) (hD : ∀ k, k < 14 → ai 69 k = nI (V / 10 ^ k % 10)) (hL : LSt G V (ai 67) 0) {l1 l3 : Option Value} {F0 : Nat → Int32} : ∀ z k cc l7 l8 l9, k + z = 13 → cc ≤ 1 → itG G k V = V / 10 ^ k + cc → WP E c 262 182 [some (.ref m), l1, none, l3, none, some (.int (nI cc)), some (.int (nI k)), l7, l8, l9] [] (mh E ah m ma v (iu ai 68 (ovr F0 0 k (fun k => figG G (itG G k V)))) al) (fun r1 x1 => r1 = some (.int (nI (G V))) ∧ x1 = mh E ah m ma v (iu ai 68 (ovr F0 0 13 (fun k => figG G (itG G k V)))) al)
  | 0, k, cc, l7, l8, l9, hz, hc, hi => by
    have e0 := hL 0 0 (by omega) (by omega) (by omega)
    have e1 : Av G V 0 0 = G V := by
      unfold Av
      rw [if_neg (by decide), Nat.pow_zero, Nat.div_one, Nat.add_zero]
    rw [e1] at e0
    have e0 : ai 67 0 = nI (G V) := e0
    rw [show k = 13 by omega, r262_182]
    simp (disch := first | assumption | omega | decide | (simp only [List.length_cons, List.length_nil, Nat.reduceAdd, Nat.reduceLT]; done) | fail) only [r262_184, r262_186, r262_284, r262_285, r262_288, r262_289, r262_290, mh_o h, gm_67, WPo_some, List.getElem?_cons_succ, List.getElem?_cons_zero, kil_n, kil_i, kil_a, kil_u, kil_l, Option.toList_some, Option.toList_none, List.cons_append, List.nil_append, List.set_cons_succ, List.set_cons_zero, addm1, Nat.reduceAdd, List.length_cons, List.length_nil, Nat.reduceLT, gI, hm_67 h, iu_ne, e0, nI_clamp, nI_toInt, nI_leL, nI_Lle, nI_ltL, nI_Llt, nI_eqL, nI_Leq, nI_leE, nI_ltE, nI_eqE, nI_eqM, nI_add, nI_addL, nI_Ladd, nI_mulL, nI_Lmul, pk_mul, pk_sub, nI_subL, nI_Lsub, i2l_nI, Int.toNat_natCast, Nat.not_lt_zero, Nat.zero_le, ifT, ifF, not_true_eq_false, not_false_eq_true, if_true, if_false, or_self, and_self, true_and, and_true, or_true, true_or, false_or, or_false, false_and, and_false, show (0 : Int32).toNatClampNeg = 0 by decide]
  | z + 1, k, cc, l7, l8, l9, hz, hc, hi => by
    have l2 := hL (k + 1) 0 (by omega) (by omega) (by omega)
    have l1' := hL k cc (by omega) (by omega) hc
    rw [show 2 * (k + 1) + 0 = 2 * k + 2 by omega] at l2
    have b2 := Av_le (k := k + 1) (c := 0) hG hV (by omega)
    have b3 := Av_le (k := k) (c := cc) hG hV hc
    have hd : V / 10 ^ k % 10 < 10 := Nat.mod_lt _ (by decide)
    have hDk := hD k (by omega)
    have sc := step_C hG hV (show k ≤ 12 by omega) hc
    rw [← hi] at sc
    have m4 := upd_ovr0 (F := F0) (i := k) (h := fun k => figG G (itG G k V)) (x := figG G (itG G k V)) rfl
    rw [r262_182]
    by_cases stays : V / 10 ^ k % 10 + cc ≤ 9 ∧ V / 10 ^ k % 10 + cc + Av G V (k + 1) 0 = Av G V k cc
    · obtain ⟨f1, f2⟩ := sc.1 stays
      have ih := fun l7 l8 l9 => l_fC h hG hV hD hL (l1 := l1) (l3 := l3) (F0 := F0) z (k + 1) 0 l7 l8 l9 (by omega) (by omega) ((itG_s k V).trans f2)
      rw [f1] at m4
      have s1 := stays.1
      have s2 := stays.2
      simp (disch := first | assumption | omega | decide | (simp only [List.length_cons, List.length_nil, Nat.reduceAdd, Nat.reduceLT]; done) | fail) only [r262_184, r262_186, r262_189, r262_190, r262_193, r262_195, r262_196, r262_198, r262_199, r262_201, r262_203, r262_205, r262_208, r262_210, r262_211, r262_214, r262_215, r262_217, r262_218, r262_219, r262_220, r262_221, r262_222, r262_223, r262_226, r262_227, r262_229, r262_230, r262_232, r262_233, r262_234, r262_237, r262_238, r262_241, r262_242, r262_244, r262_245, r262_248, r262_250, r262_252, r262_255, r262_257, r262_260, r262_262, r262_264, r262_265, r262_266, r262_268, r262_271, r262_272, r262_275, r262_276, r262_278, r262_281, mh_o h, gm_67, gm_68, gm_69, WPo_some, List.getElem?_cons_succ, List.getElem?_cons_zero, kil_n, kil_i, kil_a, kil_u, kil_l, Option.toList_some, Option.toList_none, List.cons_append, List.nil_append, List.set_cons_succ, List.set_cons_zero, addm1, Nat.reduceAdd, List.length_cons, List.length_nil, Nat.reduceLT, gI, pI, hm_67 h, hm_68 h, hm_69 h, sm_68 h, iu_at, iu_ne, iu_iu, hDk, l2, l1', s1, s2, m4, nI_clamp, nI_toInt, nI_leL, nI_Lle, nI_ltL, nI_Llt, nI_eqL, nI_Leq, nI_leE, nI_ltE, nI_eqE, nI_eqM, nI_add, nI_addL, nI_Ladd, nI_mulL, nI_Lmul, pk_mul, pk_sub, nI_subL, nI_Lsub, i2l_nI, Int.toNat_natCast, Nat.not_lt_zero, Nat.zero_le, ifT, ifF, not_true_eq_false, not_false_eq_true, if_true, if_false, or_self, and_self, true_and, and_true, or_true, true_or, false_or, or_false, false_and, and_false, show ¬ (1 : Int32) = 0 by decide]
      exact ih _ _ _
    · obtain ⟨f1, f2⟩ := sc.2 stays
      have ih := fun l7 l8 l9 => l_fC h hG hV hD hL (l1 := l1) (l3 := l3) (F0 := F0) z (k + 1) 1 l7 l8 l9 (by omega) (by omega) (by rw [itG_s, f2])
      rw [f1] at m4
      by_cases s1 : V / 10 ^ k % 10 + cc ≤ 9
      · have s2 : ¬ V / 10 ^ k % 10 + cc + Av G V (k + 1) 0 = Av G V k cc := fun y => stays ⟨s1, y⟩
        simp (disch := first | assumption | omega | decide | (simp only [List.length_cons, List.length_nil, Nat.reduceAdd, Nat.reduceLT]; done) | fail) only [r262_184, r262_186, r262_189, r262_190, r262_193, r262_195, r262_196, r262_198, r262_199, r262_201, r262_203, r262_205, r262_208, r262_210, r262_211, r262_214, r262_215, r262_217, r262_218, r262_219, r262_220, r262_221, r262_222, r262_223, r262_226, r262_227, r262_229, r262_230, r262_232, r262_233, r262_234, r262_237, r262_238, r262_241, r262_242, r262_244, r262_245, r262_248, r262_250, r262_252, r262_255, r262_257, r262_260, r262_262, r262_264, r262_265, r262_266, r262_268, r262_271, r262_272, r262_275, r262_276, r262_278, r262_281, mh_o h, gm_67, gm_68, gm_69, WPo_some, List.getElem?_cons_succ, List.getElem?_cons_zero, kil_n, kil_i, kil_a, kil_u, kil_l, Option.toList_some, Option.toList_none, List.cons_append, List.nil_append, List.set_cons_succ, List.set_cons_zero, addm1, Nat.reduceAdd, List.length_cons, List.length_nil, Nat.reduceLT, gI, pI, hm_67 h, hm_68 h, hm_69 h, sm_68 h, iu_at, iu_ne, iu_iu, hDk, l2, l1', s1, s2, m4, nI_clamp, nI_toInt, nI_leL, nI_Lle, nI_ltL, nI_Llt, nI_eqL, nI_Leq, nI_leE, nI_ltE, nI_eqE, nI_eqM, nI_add, nI_addL, nI_Ladd, nI_mulL, nI_Lmul, pk_mul, pk_sub, nI_subL, nI_Lsub, i2l_nI, Int.toNat_natCast, Nat.not_lt_zero, Nat.zero_le, ifT, ifF, not_true_eq_false, not_false_eq_true, if_true, if_false, or_self, and_self, true_and, and_true, or_true, true_or, false_or, or_false, false_and, and_false]
        exact ih _ _ _
      · have e10 : V / 10 ^ k % 10 + cc = 10 := by omega
        rw [e10, show nI 10 - 10 = nI (10 - 10) by decide] at m4
        simp (disch := first | assumption | omega | decide | (simp only [List.length_cons, List.length_nil, Nat.reduceAdd, Nat.reduceLT]; done) | fail) only [r262_184, r262_186, r262_189, r262_190, r262_193, r262_195, r262_196, r262_198, r262_199, r262_201, r262_203, r262_205, r262_208, r262_210, r262_211, r262_214, r262_215, r262_217, r262_218, r262_219, r262_220, r262_221, r262_222, r262_223, r262_226, r262_227, r262_229, r262_230, r262_232, r262_233, r262_234, r262_237, r262_238, r262_241, r262_242, r262_244, r262_245, r262_248, r262_250, r262_252, r262_255, r262_257, r262_260, r262_262, r262_264, r262_265, r262_266, r262_268, r262_271, r262_272, r262_275, r262_276, r262_278, r262_281, mh_o h, gm_67, gm_68, gm_69, WPo_some, List.getElem?_cons_succ, List.getElem?_cons_zero, kil_n, kil_i, kil_a, kil_u, kil_l, Option.toList_some, Option.toList_none, List.cons_append, List.nil_append, List.set_cons_succ, List.set_cons_zero, addm1, Nat.reduceAdd, List.length_cons, List.length_nil, Nat.reduceLT, gI, pI, hm_67 h, hm_68 h, hm_69 h, sm_68 h, iu_at, iu_ne, iu_iu, hDk, l2, l1', s1, e10, m4, nI_clamp, nI_toInt, nI_leL, nI_Lle, nI_ltL, nI_Llt, nI_eqL, nI_Leq, nI_leE, nI_ltE, nI_eqE, nI_eqM, nI_add, nI_addL, nI_Ladd, nI_mulL, nI_Lmul, pk_mul, pk_sub, nI_subL, nI_Lsub, i2l_nI, Int.toNat_natCast, Nat.not_lt_zero, Nat.zero_le, ifT, ifF, not_true_eq_false, not_false_eq_true, if_true, if_false, or_self, and_self, true_and, and_true, or_true, true_or, false_or, or_false, false_and, and_false]
        exact ih _ _ _
end TN2

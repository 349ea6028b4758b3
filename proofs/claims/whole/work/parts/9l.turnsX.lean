/-! The fewest turns of the class -/
theorem lt_step {gT : Nat → Nat} {p q d r x : Nat} (hd : d ≤ 9) (hr : gT (10 * r + d) = min (d + gT r) (if d = 0 then 1000 else 10 - d + gT (r + 1))) (hr1 : gT (10 * r + d + 1) = min ((10 * r + d + 1) % 10 + gT ((10 * r + d + 1) / 10)) (if (10 * r + d + 1) % 10 = 0 then 1000 else 10 - (10 * r + d + 1) % 10 + gT ((10 * r + d + 1) / 10 + 1))) (hI : min (p + gT (10 * r + d)) (q + gT (10 * r + d + 1)) = x) (hx : x ≤ 117) : min (min (p + d) (if d < 9 then q + d + 1 else 1000) + gT r) (min (if d = 0 then 1000 else p + 10 - d) (q + 9 - d) + gT (r + 1)) = x := by
  by_cases d9 : d = 9
  · have e1 : (10 * r + d + 1) % 10 = 0 := by omega
    have e2 : (10 * r + d + 1) / 10 = r + 1 := by omega
    rw [e1, e2, if_pos rfl] at hr1
    rw [if_neg (by omega)] at hr
    rw [if_neg (show ¬ d < 9 by omega), if_neg (show ¬ d = 0 by omega)]
    omega
  · have e1 : (10 * r + d + 1) % 10 = d + 1 := by omega
    have e2 : (10 * r + d + 1) / 10 = r := by omega
    rw [e1, e2, if_neg (by omega)] at hr1
    rw [if_pos (show d < 9 by omega)]
    by_cases d0 : d = 0
    · rw [if_pos d0] at hr ⊢
      omega
    · rw [if_neg d0] at hr ⊢
      omega
section LTX
variable {E : aEnv} {c : Nat} {ah : aHp}
theorem mn_nI {x y : Nat} : (if y < x then nI y else nI x) = nI (min x y) := by
  by_cases z : y < x
  · rw [if_pos z, Nat.min_eq_right (by omega)]
  · rw [if_neg z, Nat.min_eq_left (by omega)]
theorem c_minN {x y : Nat} (hx : x < 2 ^ 31) (hy : y < 2 ^ 31) : EV E c 294 [.int (nI x), .int (nI y)] ah (some (.int (nI (min x y)))) ah := by
  have k := c_min (E := E) (c := c) (ah := ah) (x := nI x) (y := nI y)
  have e : (if nI y < nI x then nI y else nI x) = nI (min x y) := by
    rw [← mn_nI]
    by_cases z : y < x
    · rw [if_pos z, if_pos (by rw [nI_ltE hy hx]; exact z)]
    · rw [if_neg z, if_neg (by rw [nI_ltE hy hx]; exact z)]
  rw [e] at k
  exact k
/-- what the counting needs of the least sum -/
noncomputable def GG (G : Nat → Nat) : Prop := G 0 = 0 ∧ G 1 = 1 ∧ (∀ R, R ≤ 1000000000000 → G R = min (R % 10 + G (R / 10)) (if R % 10 = 0 then 1000 else 10 - R % 10 + G (R / 10 + 1))) ∧ ∀ R, R ≤ 1000000000000 → G R ≤ 117
theorem gT_GG : GG gT := ⟨gT_0, gT_1, fun R h => gT_rec h, fun R h => gT_le h⟩
theorem l_lt {G : Nat → Nat} (hG : GG G) {N : Nat} (hN : N ≤ 1000000000000) {a0 : Option Value} : ∀ z i p q R l7 l8 l9, i + z = 13 → p ≤ 10 * i → q ≤ 1000 + 10 * i → R < 1000000000000 → R < 10 ^ z → min (p + G R) (q + G (R + 1)) = G N → WP E (c + 1) 113 12 [a0, none, some (.int (nI p)), some (.int (nI q)), some (.long (lN R)), none, some (.int (nI i)), l7, l8, l9] [] ah (fun r1 x1 => r1 = some (.int (nI (G N))) ∧ x1 = ah)
  | 0, i, p, q, R, l7, l8, l9, hz, hp, hq, hR, hR2, hI => by
    have r0 : R = 0 := by
      rw [Nat.pow_zero] at hR2
      omega
    clear hR2
    subst r0
    rw [hG.1, Nat.zero_add, hG.2.1] at hI
    have k := c_minN (E := E) (c := c) (ah := ah) (x := p) (y := q + 1) (by omega) (by omega)
    rw [show min p (q + 1) = G N by omega] at k
    rw [r113_12]
    simp (disch := first | assumption | omega | decide | (simp only [List.length_cons, List.length_nil, Nat.reduceAdd, Nat.reduceLT]; done) | fail) only [r113_14, r113_16, r113_113, r113_114, r113_115, r113_116, q113_117 k, oGF_is, WPo_some, List.getElem?_cons_succ, List.getElem?_cons_zero, kil_n, kil_i, kil_a, kil_u, kil_l, Option.toList_some, Option.toList_none, List.cons_append, List.nil_append, List.set_cons_succ, List.set_cons_zero, addm1, Nat.reduceAdd, List.length_cons, List.length_nil, Nat.reduceLT, nI_clamp, nI_toInt, nI_leL, nI_Lle, nI_ltL, nI_Llt, nI_eqL, nI_Leq, nI_leE, nI_ltE, nI_eqE, nI_eqM, nI_add, nI_addL, nI_Ladd, nI_mulL, nI_Lmul, pk_mul, pk_sub, nI_subL, nI_Lsub, i2l_nI, Int.toNat_natCast, Nat.not_lt_zero, Nat.zero_le, ifT, ifF, not_true_eq_false, not_false_eq_true, if_true, if_false, or_self, and_self, true_and, and_true, or_true, true_or, false_or, or_false, false_and, and_false, r113_120]
  | z + 1, i, p, q, R, l7, l8, l9, hz, hp, hq, hR, hR2, hI => by
    have gb := hG.2.2.2 N hN
    rw [r113_12]
    by_cases r0 : R = 0
    · clear hR2
      subst r0
      rw [hG.1, Nat.zero_add, hG.2.1] at hI
      have k := c_minN (E := E) (c := c) (ah := ah) (x := p) (y := q + 1) (by omega) (by omega)
      rw [show min p (q + 1) = G N by omega] at k
      have e0 : lN 0 ≤ 0 := by decide
      simp (disch := first | assumption | omega | decide | (simp only [List.length_cons, List.length_nil, Nat.reduceAdd, Nat.reduceLT]; done) | fail) only [r113_14, r113_16, r113_19, r113_21, r113_22, r113_23, lg_cmp_le, e0, r113_113, r113_114, r113_115, r113_116, q113_117 k, oGF_is, WPo_some, List.getElem?_cons_succ, List.getElem?_cons_zero, kil_n, kil_i, kil_a, kil_u, kil_l, Option.toList_some, Option.toList_none, List.cons_append, List.nil_append, List.set_cons_succ, List.set_cons_zero, addm1, Nat.reduceAdd, List.length_cons, List.length_nil, Nat.reduceLT, nI_clamp, nI_toInt, nI_leL, nI_Lle, nI_ltL, nI_Llt, nI_eqL, nI_Leq, nI_leE, nI_ltE, nI_eqE, nI_eqM, nI_add, nI_addL, nI_Ladd, nI_mulL, nI_Lmul, pk_mul, pk_sub, nI_subL, nI_Lsub, i2l_nI, Int.toNat_natCast, Nat.not_lt_zero, Nat.zero_le, ifT, ifF, not_true_eq_false, not_false_eq_true, if_true, if_false, or_self, and_self, true_and, and_true, or_true, true_or, false_or, or_false, false_and, and_false, r113_120]
    · obtain ⟨d, hd⟩ : ∃ d, d = R % 10 := ⟨_, rfl⟩
      obtain ⟨r, hr⟩ : ∃ r, r = R / 10 := ⟨_, rfl⟩
      have eR : R = 10 * r + d := by omega
      have d9 : d ≤ 9 := by omega
      have hr2 : r < 10 ^ z := by
        rw [Nat.pow_succ] at hR2
        omega
      clear hR2
      have e0 : ¬ lN R ≤ 0 := by
        rw [show (0 : Int64) = lN 0 from rfl, lN_le63 (by omega) (by omega)]
        omega
      have t0 : ¬ (10 : Int64) = 0 := by decide
      have x1 : lN R / 10 = lN r := by
        have := lN_div (a := R) (b := 10) (by omega) (by decide) (by decide)
        rw [hr]
        exact this
      have x2 : lN R - lN r * 10 = lN d := by
        have := lN_rem (a := R) (b := 10) (by omega) (by decide) (by decide)
        rw [show lN 10 = (10 : Int64) from rfl, x1] at this
        rw [hd]
        exact this
      have g1 := hG.2.2.1 R (by omega)
      have g2 := hG.2.2.1 (R + 1) (by omega)
      rw [← hd, ← hr] at g1
      have st := lt_step (gT := G) (p := p) (q := q) (d := d) (r := r) (x := G N) d9 (by rw [← eR]; exact g1) (by rw [← eR]; exact g2) (by rw [← eR]; exact hI) gb
      have ih := fun l7 l8 l9 => l_lt hG hN (a0 := a0) z (i + 1) (min (p + d) (if d < 9 then q + d + 1 else 1000)) (min (if d = 0 then 1000 else p + 10 - d) (q + 9 - d)) r l7 l8 l9 (by omega) (by omega) (by omega) (by omega) hr2 st
      by_cases c9 : d < 9
      · rw [if_pos c9] at ih
        have k1 := c_minN (E := E) (c := c) (ah := ah) (x := p + d) (y := q + d + 1) (by omega) (by omega)
        by_cases c0 : d = 0
        · rw [if_pos c0] at ih
          have k2 := c_minN (E := E) (c := c) (ah := ah) (x := 1000) (y := q + 9 - d) (by omega) (by omega)
          have k2 : EV E c 294 [.int 1000, .int (nI (q + 9 - d))] ah (some (.int (nI (min 1000 (q + 9 - d))))) ah := k2
          simp (disch := first | assumption | omega | decide | (simp only [List.length_cons, List.length_nil, Nat.reduceAdd, Nat.reduceLT]; done) | fail) only [r113_14, r113_16, r113_19, r113_21, r113_22, r113_23, r113_26, r113_28, r113_32, r113_33, r113_35, r113_36, r113_38, r113_39, r113_41, r113_43, r113_46, r113_47, r113_49, r113_50, r113_51, r113_52, r113_55, r113_61, r113_63, r113_65, r113_68, r113_69, r113_71, r113_72, r113_74, r113_75, r113_78, r113_81, r113_82, r113_84, r113_85, r113_87, r113_91, r113_93, r113_95, r113_96, r113_98, r113_99, r113_101, r113_105, r113_107, r113_110, r113_31, r113_104, q113_58 k1, q113_88 k2, lg_cmp_le, e0, x1, x2, lN_i, oGF_is, WPo_some, List.getElem?_cons_succ, List.getElem?_cons_zero, kil_n, kil_i, kil_a, kil_u, kil_l, Option.toList_some, Option.toList_none, List.cons_append, List.nil_append, List.set_cons_succ, List.set_cons_zero, addm1, Nat.reduceAdd, List.length_cons, List.length_nil, Nat.reduceLT, nI_clamp, nI_toInt, nI_leL, nI_Lle, nI_ltL, nI_Llt, nI_eqL, nI_Leq, nI_leE, nI_ltE, nI_eqE, nI_eqM, nI_add, nI_addL, nI_Ladd, nI_mulL, nI_Lmul, pk_mul, pk_sub, nI_subL, nI_Lsub, i2l_nI, Int.toNat_natCast, Nat.not_lt_zero, Nat.zero_le, ifT, ifF, not_true_eq_false, not_false_eq_true, if_true, if_false, or_self, and_self, true_and, and_true, or_true, true_or, false_or, or_false, false_and, and_false]
          exact ih _ _ _
        · rw [if_neg c0] at ih
          have k2 := c_minN (E := E) (c := c) (ah := ah) (x := p + 10 - d) (y := q + 9 - d) (by omega) (by omega)
          simp (disch := first | assumption | omega | decide | (simp only [List.length_cons, List.length_nil, Nat.reduceAdd, Nat.reduceLT]; done) | fail) only [r113_14, r113_16, r113_19, r113_21, r113_22, r113_23, r113_26, r113_28, r113_32, r113_33, r113_35, r113_36, r113_38, r113_39, r113_41, r113_43, r113_46, r113_47, r113_49, r113_50, r113_51, r113_52, r113_55, r113_61, r113_63, r113_65, r113_68, r113_69, r113_71, r113_72, r113_74, r113_75, r113_78, r113_81, r113_82, r113_84, r113_85, r113_87, r113_91, r113_93, r113_95, r113_96, r113_98, r113_99, r113_101, r113_105, r113_107, r113_110, r113_31, r113_104, q113_58 k1, q113_88 k2, lg_cmp_le, e0, x1, x2, lN_i, oGF_is, WPo_some, List.getElem?_cons_succ, List.getElem?_cons_zero, kil_n, kil_i, kil_a, kil_u, kil_l, Option.toList_some, Option.toList_none, List.cons_append, List.nil_append, List.set_cons_succ, List.set_cons_zero, addm1, Nat.reduceAdd, List.length_cons, List.length_nil, Nat.reduceLT, nI_clamp, nI_toInt, nI_leL, nI_Lle, nI_ltL, nI_Llt, nI_eqL, nI_Leq, nI_leE, nI_ltE, nI_eqE, nI_eqM, nI_add, nI_addL, nI_Ladd, nI_mulL, nI_Lmul, pk_mul, pk_sub, nI_subL, nI_Lsub, i2l_nI, Int.toNat_natCast, Nat.not_lt_zero, Nat.zero_le, ifT, ifF, not_true_eq_false, not_false_eq_true, if_true, if_false, or_self, and_self, true_and, and_true, or_true, true_or, false_or, or_false, false_and, and_false]
          exact ih _ _ _
      · rw [if_neg c9, if_neg (show ¬ d = 0 by omega)] at ih
        have k1 := c_minN (E := E) (c := c) (ah := ah) (x := p + d) (y := 1000) (by omega) (by omega)
        have k1 : EV E c 294 [.int (nI (p + d)), .int 1000] ah (some (.int (nI (min (p + d) 1000)))) ah := k1
        have k2 := c_minN (E := E) (c := c) (ah := ah) (x := p + 10 - d) (y := q + 9 - d) (by omega) (by omega)
        simp (disch := first | assumption | omega | decide | (simp only [List.length_cons, List.length_nil, Nat.reduceAdd, Nat.reduceLT]; done) | fail) only [r113_14, r113_16, r113_19, r113_21, r113_22, r113_23, r113_26, r113_28, r113_32, r113_33, r113_35, r113_36, r113_38, r113_39, r113_41, r113_43, r113_46, r113_47, r113_49, r113_50, r113_51, r113_52, r113_55, r113_61, r113_63, r113_65, r113_68, r113_69, r113_71, r113_72, r113_74, r113_75, r113_78, r113_81, r113_82, r113_84, r113_85, r113_87, r113_91, r113_93, r113_95, r113_96, r113_98, r113_99, r113_101, r113_105, r113_107, r113_110, r113_31, r113_104, q113_58 k1, q113_88 k2, lg_cmp_le, e0, x1, x2, lN_i, oGF_is, WPo_some, List.getElem?_cons_succ, List.getElem?_cons_zero, kil_n, kil_i, kil_a, kil_u, kil_l, Option.toList_some, Option.toList_none, List.cons_append, List.nil_append, List.set_cons_succ, List.set_cons_zero, addm1, Nat.reduceAdd, List.length_cons, List.length_nil, Nat.reduceLT, nI_clamp, nI_toInt, nI_leL, nI_Lle, nI_ltL, nI_Llt, nI_eqL, nI_Leq, nI_leE, nI_ltE, nI_eqE, nI_eqM, nI_add, nI_addL, nI_Ladd, nI_mulL, nI_Lmul, pk_mul, pk_sub, nI_subL, nI_Lsub, i2l_nI, Int.toNat_natCast, Nat.not_lt_zero, Nat.zero_le, ifT, ifF, not_true_eq_false, not_false_eq_true, if_true, if_false, or_self, and_self, true_and, and_true, or_true, true_or, false_or, or_false, false_and, and_false]
        exact ih _ _ _
theorem c_least {G : Nat → Nat} (hG : GG G) {N : Nat} (hN : N < 1000000000000) : EV E (c + 1) 113 [.long (lN N)] ah (some (.int (nI (G N)))) ah := by
  refine e113 ?_
  have gb := hG.2.2.2 N (by omega)
  have l := l_lt (E := E) (c := c) (ah := ah) hG (N := N) (by omega) (a0 := some (.long (lN N))) 13 0 0 1000 N none none none (by omega) (by omega) (by omega) hN (by
    have : (10 : Nat) ^ 13 = 10000000000000 := by decide
    omega) (by omega)
  simp (disch := first | assumption | omega | decide | (simp only [List.length_cons, List.length_nil, Nat.reduceAdd, Nat.reduceLT]; done) | fail) only [r113_0, r113_1, r113_2, r113_5, r113_6, r113_7, r113_9, r113_10, oGF_is, WPo_some, List.getElem?_cons_succ, List.getElem?_cons_zero, kil_n, kil_i, kil_a, kil_u, kil_l, Option.toList_some, Option.toList_none, List.cons_append, List.nil_append, List.set_cons_succ, List.set_cons_zero, addm1, Nat.reduceAdd, List.length_cons, List.length_nil, Nat.reduceLT]
  exact l
noncomputable def lowG (G : Nat → Nat) (N : Nat) : Prop := ¬ N % 10 = 0 ∧ 10 - N % 10 + G (N / 10 + 1) < N % 10 + G (N / 10)
noncomputable def figG (G : Nat → Nat) (N : Nat) : Int32 := @ite _ (lowG G N) (Classical.propDecidable _) (nI (N % 10) - 10) (nI (N % 10))
noncomputable def nxG (G : Nat → Nat) (N : Nat) : Nat := @ite _ (lowG G N) (Classical.propDecidable _) (N / 10 + 1) (N / 10)
noncomputable def itG (G : Nat → Nat) : Nat → Nat → Nat
  | 0, N => N
  | k + 1, N => itG G k (nxG G N)
theorem nxG_lt {G : Nat → Nat} {N : Nat} (h : N < 1000000000000) : nxG G N < 1000000000000 := by
  unfold nxG
  split <;> omega
theorem c_lowest {G : Nat → Nat} (hG : GG G) {N : Nat} (hN : N < 1000000000000) : EV E (c + 2) 115 [.long (lN N)] ah (some (.int (figG G N))) ah := by
  refine e115 ?_
  obtain ⟨d, hd⟩ : ∃ d, d = N % 10 := ⟨_, rfl⟩
  obtain ⟨r, hr⟩ : ∃ r, r = N / 10 := ⟨_, rfl⟩
  have d9 : d ≤ 9 := by omega
  have g1 := hG.2.2.2 r (by omega)
  have g2 := hG.2.2.2 (r + 1) (by omega)
  have t0 : ¬ (10 : Int64) = 0 := by decide
  have x1 : lN N / 10 = lN r := by
    have := lN_div (a := N) (b := 10) (by omega) (by decide) (by decide)
    rw [hr]
    exact this
  have x2 : lN N - lN r * 10 = lN d := by
    have := lN_rem (a := N) (b := 10) (by omega) (by decide) (by decide)
    rw [show lN 10 = (10 : Int64) from rfl, x1] at this
    rw [hd]
    exact this
  have x3 : lN r + 1 = lN (r + 1) := lN_1 r
  have k1 := c_least (E := E) (c := c) (ah := ah) hG (N := r) (by omega)
  have k2 := c_least (E := E) (c := c) (ah := ah) hG (N := r + 1) (by omega)
  have e1 : figG G N = @ite _ (¬ d = 0 ∧ 10 - d + G (r + 1) < d + G r) (Classical.propDecidable _) (nI d - 10) (nI d) := by
    unfold figG lowG
    rw [← hd, ← hr]
  rw [e1]
  by_cases c0 : d = 0
  · rw [if_neg (fun y => y.1 c0)]
    simp (disch := first | assumption | omega | decide | (simp only [List.length_cons, List.length_nil, Nat.reduceAdd, Nat.reduceLT]; done) | fail) only [r115_0, r115_1, r115_5, r115_6, r115_7, r115_8, r115_12, r115_13, r115_14, r115_17, r115_19, r115_20, r115_21, r115_22, r115_23, r115_27, r115_28, r115_29, r115_33, r115_34, r115_37, r115_38, r115_41, r115_42, r115_44, r115_46, r115_49, r115_50, r115_52, r115_53, r115_56, r115_57, r115_4, r115_11, x1, x2, lN_i, oGF_is, WPo_some, List.getElem?_cons_succ, List.getElem?_cons_zero, kil_n, kil_i, kil_a, kil_u, kil_l, Option.toList_some, Option.toList_none, List.cons_append, List.nil_append, List.set_cons_succ, List.set_cons_zero, addm1, Nat.reduceAdd, List.length_cons, List.length_nil, Nat.reduceLT, nI_clamp, nI_toInt, nI_leL, nI_Lle, nI_ltL, nI_Llt, nI_eqL, nI_Leq, nI_leE, nI_ltE, nI_eqE, nI_eqM, nI_add, nI_addL, nI_Ladd, nI_mulL, nI_Lmul, pk_mul, pk_sub, nI_subL, nI_Lsub, i2l_nI, Int.toNat_natCast, Nat.not_lt_zero, Nat.zero_le, ifT, ifF, not_true_eq_false, not_false_eq_true, if_true, if_false, or_self, and_self, true_and, and_true, or_true, true_or, false_or, or_false, false_and, and_false]
  · by_cases lo : 10 - d + G (r + 1) < d + G r
    · rw [if_pos ⟨c0, lo⟩]
      simp (disch := first | assumption | omega | decide | (simp only [List.length_cons, List.length_nil, Nat.reduceAdd, Nat.reduceLT]; done) | fail) only [r115_0, r115_1, r115_5, r115_6, r115_7, r115_8, r115_12, r115_13, r115_14, r115_17, r115_19, r115_20, r115_21, r115_22, r115_23, r115_27, r115_28, r115_29, r115_33, r115_34, r115_37, r115_38, r115_41, r115_42, r115_44, r115_46, r115_49, r115_50, r115_52, r115_53, r115_56, r115_57, r115_4, r115_11, q115_24 k2, q115_30 k1, x1, x2, x3, lN_i, oGF_is, WPo_some, List.getElem?_cons_succ, List.getElem?_cons_zero, kil_n, kil_i, kil_a, kil_u, kil_l, Option.toList_some, Option.toList_none, List.cons_append, List.nil_append, List.set_cons_succ, List.set_cons_zero, addm1, Nat.reduceAdd, List.length_cons, List.length_nil, Nat.reduceLT, nI_clamp, nI_toInt, nI_leL, nI_Lle, nI_ltL, nI_Llt, nI_eqL, nI_Leq, nI_leE, nI_ltE, nI_eqE, nI_eqM, nI_add, nI_addL, nI_Ladd, nI_mulL, nI_Lmul, pk_mul, pk_sub, nI_subL, nI_Lsub, i2l_nI, Int.toNat_natCast, Nat.not_lt_zero, Nat.zero_le, ifT, ifF, not_true_eq_false, not_false_eq_true, if_true, if_false, or_self, and_self, true_and, and_true, or_true, true_or, false_or, or_false, false_and, and_false, show ¬ (1 : Int32) = 0 by decide]
    · rw [if_neg (fun y => lo y.2)]
      simp (disch := first | assumption | omega | decide | (simp only [List.length_cons, List.length_nil, Nat.reduceAdd, Nat.reduceLT]; done) | fail) only [r115_0, r115_1, r115_5, r115_6, r115_7, r115_8, r115_12, r115_13, r115_14, r115_17, r115_19, r115_20, r115_21, r115_22, r115_23, r115_27, r115_28, r115_29, r115_33, r115_34, r115_37, r115_38, r115_41, r115_42, r115_44, r115_46, r115_49, r115_50, r115_52, r115_53, r115_56, r115_57, r115_4, r115_11, q115_24 k2, q115_30 k1, x1, x2, x3, lN_i, oGF_is, WPo_some, List.getElem?_cons_succ, List.getElem?_cons_zero, kil_n, kil_i, kil_a, kil_u, kil_l, Option.toList_some, Option.toList_none, List.cons_append, List.nil_append, List.set_cons_succ, List.set_cons_zero, addm1, Nat.reduceAdd, List.length_cons, List.length_nil, Nat.reduceLT, nI_clamp, nI_toInt, nI_leL, nI_Lle, nI_ltL, nI_Llt, nI_eqL, nI_Leq, nI_leE, nI_ltE, nI_eqE, nI_eqM, nI_add, nI_addL, nI_Ladd, nI_mulL, nI_Lmul, pk_mul, pk_sub, nI_subL, nI_Lsub, i2l_nI, Int.toNat_natCast, Nat.not_lt_zero, Nat.zero_le, ifT, ifF, not_true_eq_false, not_false_eq_true, if_true, if_false, or_self, and_self, true_and, and_true, or_true, true_or, false_or, or_false, false_and, and_false]
theorem fig_nx {G : Nat → Nat} {N : Nat} (hN : N < 1000000000000) : (lN N - (figG G N).toInt64) / 10 = lN (nxG G N) := by
  have t0 : (0 : Int) < (10 : Int64).toInt := by decide
  have e10 : (10 : Int64).toInt = 10 := rfl
  have rg := nI_toInt (show N % 10 < 2 ^ 31 by omega)
  unfold figG nxG
  by_cases lo : lowG G N
  · rw [if_pos lo, if_pos lo]
    have e1 : lN N - (nI (N % 10) - 10).toInt64 = lN (10 * (N / 10) + 10) := by
      apply Int64.toInt_inj.mp
      rw [Int64.toInt_sub, lN_toInt63 (by omega), i2l_toInt, Int32.toInt_sub, rg, show (10 : Int32).toInt = 10 from rfl, bm32 (by omega) (by omega), bm64 (by omega) (by omega), lN_toInt63 (by omega)]
      omega
    rw [e1]
    have := lN_div (a := 10 * (N / 10) + 10) (b := 10) (by omega) (by decide) (by decide)
    rw [show (10 * (N / 10) + 10) / 10 = N / 10 + 1 by omega] at this
    exact this
  · rw [if_neg lo, if_neg lo, nI_l (by omega), lN_sub (by omega)]
    have := lN_div (a := N - N % 10) (b := 10) (by omega) (by decide) (by decide)
    rw [show (N - N % 10) / 10 = N / 10 by omega] at this
    exact this
theorem l_tf {G : Nat → Nat} (hG : GG G) {k : Nat} (hk : k ≤ 12) {a0 : Option Value} : ∀ z i N f, i + z = k + 1 → N < 1000000000000 → (∀ g, z = 0 → f = g → True) → WP E (c + 3) 114 8 [a0, none, some (.int (nI k)), some (.long (lN N)), none, some (.int f), some (.int (nI i))] [] ah (fun r1 x1 => r1 = some (.int (if z = 0 then f else figG G (itG G (z - 1) N))) ∧ x1 = ah)
  | 0, i, N, f, hz, hN, _ => by
    rw [r114_8]
    simp (disch := first | assumption | omega | decide | (simp only [List.length_cons, List.length_nil, Nat.reduceAdd, Nat.reduceLT]; done) | fail) only [r114_10, r114_11, r114_43, r114_45, oGF_is, WPo_some, List.getElem?_cons_succ, List.getElem?_cons_zero, kil_n, kil_i, kil_a, kil_u, kil_l, Option.toList_some, Option.toList_none, List.cons_append, List.nil_append, List.set_cons_succ, List.set_cons_zero, addm1, Nat.reduceAdd, List.length_cons, List.length_nil, Nat.reduceLT, nI_clamp, nI_toInt, nI_leL, nI_Lle, nI_ltL, nI_Llt, nI_eqL, nI_Leq, nI_leE, nI_ltE, nI_eqE, nI_eqM, nI_add, nI_addL, nI_Ladd, nI_mulL, nI_Lmul, pk_mul, pk_sub, nI_subL, nI_Lsub, i2l_nI, Int.toNat_natCast, Nat.not_lt_zero, Nat.zero_le, ifT, ifF, not_true_eq_false, not_false_eq_true, if_true, if_false, or_self, and_self, true_and, and_true, or_true, true_or, false_or, or_false, false_and, and_false]
  | z + 1, i, N, f, hz, hN, _ => by
    have ih := l_tf hG hk (a0 := a0) z (i + 1) (nxG G N) (figG G N) (by omega) (nxG_lt hN) (fun _ _ _ => trivial)
    have e1 : (if z = 0 then figG G N else figG G (itG G (z - 1) (nxG G N))) = if z + 1 = 0 then f else figG G (itG G (z + 1 - 1) N) := by
      rw [if_neg (show ¬ z + 1 = 0 by omega), Nat.add_sub_cancel]
      cases z with
      | zero => rfl
      | succ z => rfl
    rw [e1] at ih
    have t0 : ¬ (10 : Int64) = 0 := by decide
    rw [r114_8]
    simp (disch := first | assumption | omega | decide | (simp only [List.length_cons, List.length_nil, Nat.reduceAdd, Nat.reduceLT]; done) | fail) only [r114_10, r114_11, r114_14, r114_16, r114_18, r114_21, r114_25, r114_27, r114_28, r114_30, r114_31, r114_32, r114_36, r114_37, r114_40, r114_35, q114_22 (c_lowest hG hN), fig_nx hN, oGF_is, WPo_some, List.getElem?_cons_succ, List.getElem?_cons_zero, kil_n, kil_i, kil_a, kil_u, kil_l, Option.toList_some, Option.toList_none, List.cons_append, List.nil_append, List.set_cons_succ, List.set_cons_zero, addm1, Nat.reduceAdd, List.length_cons, List.length_nil, Nat.reduceLT, nI_clamp, nI_toInt, nI_leL, nI_Lle, nI_ltL, nI_Llt, nI_eqL, nI_Leq, nI_leE, nI_ltE, nI_eqE, nI_eqM, nI_add, nI_addL, nI_Ladd, nI_mulL, nI_Lmul, pk_mul, pk_sub, nI_subL, nI_Lsub, i2l_nI, Int.toNat_natCast, Nat.not_lt_zero, Nat.zero_le, ifT, ifF, not_true_eq_false, not_false_eq_true, if_true, if_false, or_self, and_self, true_and, and_true, or_true, true_or, false_or, or_false, false_and, and_false]
    exact ih
theorem c_turnFig {G : Nat → Nat} (hG : GG G) {k N : Nat} (hk : k ≤ 12) (hN : N < 1000000000000) : EV E (c + 3) 114 [.long (lN N), .int (nI k)] ah (some (.int (figG G (itG G k N)))) ah := by
  refine e114 ?_
  have l := l_tf (E := E) (c := c) (ah := ah) hG hk (a0 := some (.long (lN N))) (k + 1) 0 N 0 (by omega) hN (fun _ _ _ => trivial)
  rw [if_neg (by omega), Nat.add_sub_cancel] at l
  simp (disch := first | assumption | omega | decide | (simp only [List.length_cons, List.length_nil, Nat.reduceAdd, Nat.reduceLT]; done) | fail) only [r114_0, r114_1, r114_2, r114_3, r114_5, r114_6, oGF_is, WPo_some, List.getElem?_cons_succ, List.getElem?_cons_zero, kil_n, kil_i, kil_a, kil_u, kil_l, Option.toList_some, Option.toList_none, List.cons_append, List.nil_append, List.set_cons_succ, List.set_cons_zero, addm1, Nat.reduceAdd, List.length_cons, List.length_nil, Nat.reduceLT]
  exact l
end LTX

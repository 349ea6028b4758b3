/-! The fewest turns of the model -/
section TNM
variable {E : aEnv} {c m : Nat} {ah : aHp} {ma : Nat → Nat} {v : Nat → Value} {ai : Nat → Nat → Int32} {al : Nat → Nat → Int64} {V : Nat} {Q : Option Value → aHp → Prop}
theorem l_fA (h : MO E ah m ma) (hV : V < 1000000000000) {l1 : Option Value} {l6 l7 l8 l9 : Option Value} {D0 : Nat → Int32} (K : ∀ l3, WP E c 262 37 [some (.ref m), l1, none, l3, none, some (.int (nI 14)), l6, l7, l8, l9] [] (mh E ah m ma v (iu ai 69 (ovr D0 0 14 (fun k => nI (V / 10 ^ k % 10)))) al) Q) : ∀ z k, k + z = 14 → WP E c 262 5 [some (.ref m), l1, none, some (.long (lN (V / 10 ^ k))), none, some (.int (nI k)), l6, l7, l8, l9] [] (mh E ah m ma v (iu ai 69 (ovr D0 0 k (fun k => nI (V / 10 ^ k % 10)))) al) Q
  | 0, k, hz => by
    have K := K (some (.long (lN (V / 10 ^ k))))
    rw [show k = 14 by omega] at K ⊢
    rw [r262_5]
    simp (disch := first | assumption | omega | decide | (simp only [List.length_cons, List.length_nil, Nat.reduceAdd, Nat.reduceLT]; done) | fail) only [r262_7, r262_9, WPo_some, List.getElem?_cons_succ, List.getElem?_cons_zero, kil_n, kil_i, kil_a, kil_u, kil_l, Option.toList_some, Option.toList_none, List.cons_append, List.nil_append, List.set_cons_succ, List.set_cons_zero, addm1, Nat.reduceAdd, List.length_cons, List.length_nil, Nat.reduceLT, nI_clamp, nI_toInt, nI_leL, nI_Lle, nI_ltL, nI_Llt, nI_eqL, nI_Leq, nI_leE, nI_ltE, nI_eqE, nI_eqM, nI_add, nI_addL, nI_Ladd, nI_mulL, nI_Lmul, pk_mul, pk_sub, nI_subL, nI_Lsub, i2l_nI, Int.toNat_natCast, Nat.not_lt_zero, Nat.zero_le, ifT, ifF, not_true_eq_false, not_false_eq_true, if_true, if_false, or_self, and_self, true_and, and_true, or_true, true_or, false_or, or_false, false_and, and_false]
    exact K
  | z + 1, k, hz => by
    have ih := l_fA h hV K z (k + 1) (by omega)
    have hd : V / 10 ^ k ≤ V := Nat.div_le_self _ _
    have hs : V / 10 ^ k / 10 = V / 10 ^ (k + 1) := by rw [Nat.div_div_eq_div_mul, Nat.pow_succ]
    have m4 := upd_ovr0 (F := D0) (i := k) (h := fun k => nI (V / 10 ^ k % 10)) (x := nI (V / 10 ^ k % 10)) rfl
    rw [← hs] at ih
    have t0 : ¬ (10 : Int64) = 0 := by decide
    rw [r262_5]
    generalize V / 10 ^ k = X at hd ih m4 ⊢
    have x1 : lN X / 10 = lN (X / 10) := lN_div (a := X) (b := 10) (by omega) (by decide) (by decide)
    have x2 : lN X - lN (X / 10) * 10 = lN (X % 10) := by
      have := lN_rem (a := X) (b := 10) (by omega) (by decide) (by decide)
      rw [show lN 10 = (10 : Int64) from rfl, x1] at this
      exact this
    simp (disch := first | assumption | omega | decide | (simp only [List.length_cons, List.length_nil, Nat.reduceAdd, Nat.reduceLT]; done) | fail) only [r262_7, r262_9, r262_12, r262_13, r262_16, r262_18, r262_19, r262_23, r262_24, r262_25, r262_26, r262_30, r262_31, r262_34, r262_22, r262_29, mh_o h, gm_69, WPo_some, List.getElem?_cons_succ, List.getElem?_cons_zero, kil_n, kil_i, kil_a, kil_u, kil_l, Option.toList_some, Option.toList_none, List.cons_append, List.nil_append, List.set_cons_succ, List.set_cons_zero, addm1, Nat.reduceAdd, List.length_cons, List.length_nil, Nat.reduceLT, pI, hm_69 h, sm_69 h, iu_at, iu_iu, x1, x2, lN_i, m4, nI_clamp, nI_toInt, nI_leL, nI_Lle, nI_ltL, nI_Llt, nI_eqL, nI_Leq, nI_leE, nI_ltE, nI_eqE, nI_eqM, nI_add, nI_addL, nI_Ladd, nI_mulL, nI_Lmul, pk_mul, pk_sub, nI_subL, nI_Lsub, i2l_nI, Int.toNat_natCast, Nat.not_lt_zero, Nat.zero_le, ifT, ifF, not_true_eq_false, not_false_eq_true, if_true, if_false, or_self, and_self, true_and, and_true, or_true, true_or, false_or, or_false, false_and, and_false]
    exact ih
/-- the table's rows from k on -/
noncomputable def LSt (G : Nat → Nat) (V : Nat) (L : Nat → Int32) (k : Nat) : Prop := ∀ j c, k ≤ j → j ≤ 13 → c ≤ 1 → L (2 * j + c) = nI (Av G V j c)
theorem l_fB1 (h : MO E ah m ma) {G : Nat → Nat} (hG : GG G) (hV : V < 1000000000000) {k : Nat} (hk : k ≤ 12) (hD : ai 69 k = nI (V / 10 ^ k % 10)) {l1 l3 : Option Value} (K : ∀ L l7 l8 l9, LSt G V L k → WP E (c + 1) 262 170 [some (.ref m), l1, none, l3, none, some (.int (nI k)), some (.int (nI 2)), l7, l8, l9] [] (mh E ah m ma v (iu ai 67 L) al) Q) : ∀ z cc L l7 l8 l9, cc + z = 2 → LSt G V L (k + 1) → (∀ c', c' < cc → L (2 * k + c') = nI (Av G V k c')) → WP E (c + 1) 262 67 [some (.ref m), l1, none, l3, none, some (.int (nI k)), some (.int (nI cc)), l7, l8, l9] [] (mh E ah m ma v (iu ai 67 L) al) Q
  | 0, cc, L, l7, l8, l9, hz, hL, hc => by
    have K := K L l7 l8 l9 (fun j c' h1 h2 h3 => by
      by_cases y : j = k
      · rw [y]; exact hc c' (by omega)
      · exact hL j c' (by omega) h2 h3)
    rw [show cc = 2 by omega, r262_67]
    simp (disch := first | assumption | omega | decide | (simp only [List.length_cons, List.length_nil, Nat.reduceAdd, Nat.reduceLT]; done) | fail) only [r262_69, r262_70, WPo_some, List.getElem?_cons_succ, List.getElem?_cons_zero, kil_n, kil_i, kil_a, kil_u, kil_l, Option.toList_some, Option.toList_none, List.cons_append, List.nil_append, List.set_cons_succ, List.set_cons_zero, addm1, Nat.reduceAdd, List.length_cons, List.length_nil, Nat.reduceLT, nI_clamp, nI_toInt, nI_leL, nI_Lle, nI_ltL, nI_Llt, nI_eqL, nI_Leq, nI_leE, nI_ltE, nI_eqE, nI_eqM, nI_add, nI_addL, nI_Ladd, nI_mulL, nI_Lmul, pk_mul, pk_sub, nI_subL, nI_Lsub, i2l_nI, Int.toNat_natCast, Nat.not_lt_zero, Nat.zero_le, ifT, ifF, not_true_eq_false, not_false_eq_true, if_true, if_false, or_self, and_self, true_and, and_true, or_true, true_or, false_or, or_false, false_and, and_false]
    exact K
  | z + 1, cc, L, l7, l8, l9, hz, hL, hc => by
    have l2 := hL (k + 1) 0 (by omega) (by omega) (by omega)
    have l3 := hL (k + 1) 1 (by omega) (by omega) (by omega)
    rw [show 2 * (k + 1) + 0 = 2 * k + 2 by omega] at l2
    rw [show 2 * (k + 1) + 1 = 2 * k + 3 by omega] at l3
    have b2 := Av_le (k := k + 1) (c := 0) hG hV (by omega)
    have b3 := Av_le (k := k + 1) (c := 1) hG hV (by omega)
    have rcc := Av_rec (c := cc) hG hV hk (by omega)
    have hd : V / 10 ^ k % 10 < 10 := Nat.mod_lt _ (by decide)
    have ih := fun l7 l8 l9 => l_fB1 h hG hV hk hD K z (cc + 1) (upd L (2 * k + cc) (nI (Av G V k cc))) l7 l8 l9 (by omega) (fun j c' h1 h2 h3 => by
      rw [upd_ne (by omega)]
      exact hL j c' h1 h2 h3) (fun c' h1 => by
      by_cases y : c' = cc
      · rw [y, upd_at]
      · rw [upd_ne (by omega)]
        exact hc c' (by omega))
    rw [rcc] at ih
    rw [r262_67]
    generalize V / 10 ^ k % 10 = d at hD hd ih
    generalize Av G V (k + 1) 0 = a0 at l2 b2 ih
    generalize Av G V (k + 1) 1 = a1 at l3 b3 ih
    by_cases w9 : d + cc ≤ 9
    · by_cases w1 : 1 ≤ d + cc
      · rw [if_pos w9, if_pos w1] at ih
        have k1 := fun ah => c_minN (E := E) (c := c) (ah := ah) (x := d + cc + a0) (y := 10 - (d + cc) + a1) (by omega) (by omega)
        simp (disch := first | assumption | omega | decide | (simp only [List.length_cons, List.length_nil, Nat.reduceAdd, Nat.reduceLT]; done) | fail) only [r262_69, r262_70, r262_73, r262_74, r262_77, r262_79, r262_80, r262_82, r262_83, r262_85, r262_87, r262_89, r262_92, r262_94, r262_95, r262_98, r262_99, r262_101, r262_102, r262_103, r262_104, r262_105, r262_106, r262_109, r262_112, r262_114, r262_116, r262_117, r262_120, r262_122, r262_124, r262_125, r262_126, r262_129, r262_130, r262_132, r262_133, r262_134, r262_135, r262_136, r262_137, r262_140, r262_143, r262_145, r262_146, r262_149, r262_150, r262_152, r262_153, r262_155, r262_156, r262_158, r262_163, r262_164, r262_167, q262_160 (k1 _), mh_o h, gm_67, gm_69, WPo_some, List.getElem?_cons_succ, List.getElem?_cons_zero, kil_n, kil_i, kil_a, kil_u, kil_l, Option.toList_some, Option.toList_none, List.cons_append, List.nil_append, List.set_cons_succ, List.set_cons_zero, addm1, Nat.reduceAdd, List.length_cons, List.length_nil, Nat.reduceLT, gI, pI, hm_67 h, hm_69 h, sm_67 h, iu_at, iu_ne, iu_iu, hD, l2, l3, nI_clamp, nI_toInt, nI_leL, nI_Lle, nI_ltL, nI_Llt, nI_eqL, nI_Leq, nI_leE, nI_ltE, nI_eqE, nI_eqM, nI_add, nI_addL, nI_Ladd, nI_mulL, nI_Lmul, pk_mul, pk_sub, nI_subL, nI_Lsub, i2l_nI, Int.toNat_natCast, Nat.not_lt_zero, Nat.zero_le, ifT, ifF, not_true_eq_false, not_false_eq_true, if_true, if_false, or_self, and_self, true_and, and_true, or_true, true_or, false_or, or_false, false_and, and_false]
        exact ih _ _ _
      · rw [if_pos w9, if_neg w1] at ih
        have k1 := fun ah => c_minN (E := E) (c := c) (ah := ah) (x := d + cc + a0) (y := 1000) (by omega) (by omega)
        have k1 : ∀ ah, EV E c 294 [.int (nI (d + cc + a0)), .int 1000] ah (some (.int (nI (min (d + cc + a0) 1000)))) ah := k1
        simp (disch := first | assumption | omega | decide | (simp only [List.length_cons, List.length_nil, Nat.reduceAdd, Nat.reduceLT]; done) | fail) only [r262_69, r262_70, r262_73, r262_74, r262_77, r262_79, r262_80, r262_82, r262_83, r262_85, r262_87, r262_89, r262_92, r262_94, r262_95, r262_98, r262_99, r262_101, r262_102, r262_103, r262_104, r262_105, r262_106, r262_109, r262_112, r262_114, r262_116, r262_117, r262_120, r262_122, r262_124, r262_125, r262_126, r262_129, r262_130, r262_132, r262_133, r262_134, r262_135, r262_136, r262_137, r262_140, r262_143, r262_145, r262_146, r262_149, r262_150, r262_152, r262_153, r262_155, r262_156, r262_158, r262_163, r262_164, r262_167, q262_160 (k1 _), mh_o h, gm_67, gm_69, WPo_some, List.getElem?_cons_succ, List.getElem?_cons_zero, kil_n, kil_i, kil_a, kil_u, kil_l, Option.toList_some, Option.toList_none, List.cons_append, List.nil_append, List.set_cons_succ, List.set_cons_zero, addm1, Nat.reduceAdd, List.length_cons, List.length_nil, Nat.reduceLT, gI, pI, hm_67 h, hm_69 h, sm_67 h, iu_at, iu_ne, iu_iu, hD, l2, l3, nI_clamp, nI_toInt, nI_leL, nI_Lle, nI_ltL, nI_Llt, nI_eqL, nI_Leq, nI_leE, nI_ltE, nI_eqE, nI_eqM, nI_add, nI_addL, nI_Ladd, nI_mulL, nI_Lmul, pk_mul, pk_sub, nI_subL, nI_Lsub, i2l_nI, Int.toNat_natCast, Nat.not_lt_zero, Nat.zero_le, ifT, ifF, not_true_eq_false, not_false_eq_true, if_true, if_false, or_self, and_self, true_and, and_true, or_true, true_or, false_or, or_false, false_and, and_false]
        exact ih _ _ _
    · rw [if_neg w9, if_pos (show 1 ≤ d + cc by omega)] at ih
      have k1 := fun ah => c_minN (E := E) (c := c) (ah := ah) (x := 1000) (y := 10 - (d + cc) + a1) (by omega) (by omega)
      have k1 : ∀ ah, EV E c 294 [.int 1000, .int (nI (10 - (d + cc) + a1))] ah (some (.int (nI (min 1000 (10 - (d + cc) + a1))))) ah := k1
      simp (disch := first | assumption | omega | decide | (simp only [List.length_cons, List.length_nil, Nat.reduceAdd, Nat.reduceLT]; done) | fail) only [r262_69, r262_70, r262_73, r262_74, r262_77, r262_79, r262_80, r262_82, r262_83, r262_85, r262_87, r262_89, r262_92, r262_94, r262_95, r262_98, r262_99, r262_101, r262_102, r262_103, r262_104, r262_105, r262_106, r262_109, r262_112, r262_114, r262_116, r262_117, r262_120, r262_122, r262_124, r262_125, r262_126, r262_129, r262_130, r262_132, r262_133, r262_134, r262_135, r262_136, r262_137, r262_140, r262_143, r262_145, r262_146, r262_149, r262_150, r262_152, r262_153, r262_155, r262_156, r262_158, r262_163, r262_164, r262_167, q262_160 (k1 _), mh_o h, gm_67, gm_69, WPo_some, List.getElem?_cons_succ, List.getElem?_cons_zero, kil_n, kil_i, kil_a, kil_u, kil_l, Option.toList_some, Option.toList_none, List.cons_append, List.nil_append, List.set_cons_succ, List.set_cons_zero, addm1, Nat.reduceAdd, List.length_cons, List.length_nil, Nat.reduceLT, gI, pI, hm_67 h, hm_69 h, sm_67 h, iu_at, iu_ne, iu_iu, hD, l2, l3, nI_clamp, nI_toInt, nI_leL, nI_Lle, nI_ltL, nI_Llt, nI_eqL, nI_Leq, nI_leE, nI_ltE, nI_eqE, nI_eqM, nI_add, nI_addL, nI_Ladd, nI_mulL, nI_Lmul, pk_mul, pk_sub, nI_subL, nI_Lsub, i2l_nI, Int.toNat_natCast, Nat.not_lt_zero, Nat.zero_le, ifT, ifF, not_true_eq_false, not_false_eq_true, if_true, if_false, or_self, and_self, true_and, and_true, or_true, true_or, false_or, or_false, false_and, and_false]
      exact ih _ _ _
theorem l_fB (h : MO E ah m ma) {G : Nat → Nat} (hG : GG G) (hV : V < 1000000000000) (hD : ∀ k, k < 14 → ai 69 k = nI (V / 10 ^ k % 10)) {l1 l3 : Option Value} (K : ∀ L l6 l7 l8 l9, LSt G V L 0 → WP E (c + 1) 262 176 [some (.ref m), l1, none, l3, none, some (.int (-1)), l6, l7, l8, l9] [] (mh E ah m ma v (iu ai 67 L) al) Q) : ∀ k L l6 l7 l8 l9, k ≤ 13 → LSt G V L k → WP E (c + 1) 262 59 [some (.ref m), l1, none, l3, none, some (.int (nI k - 1)), l6, l7, l8, l9] [] (mh E ah m ma v (iu ai 67 L) al) Q
  | 0, L, l6, l7, l8, l9, hk, hL => by
    have K := K L l6 l7 l8 l9 hL
    rw [r262_59]
    simp (disch := first | assumption | omega | decide | (simp only [List.length_cons, List.length_nil, Nat.reduceAdd, Nat.reduceLT]; done) | fail) only [r262_61, WPo_some, List.getElem?_cons_succ, List.getElem?_cons_zero, kil_n, kil_i, kil_a, kil_u, kil_l, Option.toList_some, Option.toList_none, List.cons_append, List.nil_append, List.set_cons_succ, List.set_cons_zero, addm1, Nat.reduceAdd, List.length_cons, List.length_nil, Nat.reduceLT, show (nI 0 - 1 : Int32) = -1 by decide, show (-1 : Int32) < 0 by decide, not_true_eq_false, not_false_eq_true, if_true, if_false, or_self, and_self, true_and, and_true, or_true, true_or, false_or, or_false, false_and, and_false]
    exact K
  | k + 1, L, l6, l7, l8, l9, hk, hL => by
    have l := l_fB1 (c := c) (v := v) (ai := ai) (al := al) (Q := Q) h hG hV (show k ≤ 12 by omega) (hD k (by omega)) (l1 := l1) (l3 := l3) (fun L2 l7 l8 l9 hL2 => by
      have ih := l_fB h hG hV hD K k L2 (some (.int (nI 2))) l7 l8 l9 (by omega) hL2
      simp (disch := first | assumption | omega | decide | (simp only [List.length_cons, List.length_nil, Nat.reduceAdd, Nat.reduceLT]; done) | fail) only [r262_170, r262_173, WPo_some, List.getElem?_cons_succ, List.getElem?_cons_zero, kil_n, kil_i, kil_a, kil_u, kil_l, Option.toList_some, Option.toList_none, List.cons_append, List.nil_append, List.set_cons_succ, List.set_cons_zero, addm1, Nat.reduceAdd, List.length_cons, List.length_nil, Nat.reduceLT, nI_clamp, nI_toInt, nI_leL, nI_Lle, nI_ltL, nI_Llt, nI_eqL, nI_Leq, nI_leE, nI_ltE, nI_eqE, nI_eqM, nI_add, nI_addL, nI_Ladd, nI_mulL, nI_Lmul, pk_mul, pk_sub, nI_subL, nI_Lsub, i2l_nI, Int.toNat_natCast, Nat.not_lt_zero, Nat.zero_le, ifT, ifF, not_true_eq_false, not_false_eq_true, if_true, if_false, or_self, and_self, true_and, and_true, or_true, true_or, false_or, or_false, false_and, and_false]
      exact ih) 2 0 L l7 l8 l9 (by omega) hL (fun c' h1 => absurd h1 (by omega))
    rw [r262_59]
    simp (disch := first | assumption | omega | decide | (simp only [List.length_cons, List.length_nil, Nat.reduceAdd, Nat.reduceLT]; done) | fail) only [r262_61, r262_64, r262_65, WPo_some, List.getElem?_cons_succ, List.getElem?_cons_zero, kil_n, kil_i, kil_a, kil_u, kil_l, Option.toList_some, Option.toList_none, List.cons_append, List.nil_append, List.set_cons_succ, List.set_cons_zero, addm1, Nat.reduceAdd, List.length_cons, List.length_nil, Nat.reduceLT, nI_clamp, nI_toInt, nI_leL, nI_Lle, nI_ltL, nI_Llt, nI_eqL, nI_Leq, nI_leE, nI_ltE, nI_eqE, nI_eqM, nI_add, nI_addL, nI_Ladd, nI_mulL, nI_Lmul, pk_mul, pk_sub, nI_subL, nI_Lsub, i2l_nI, Int.toNat_natCast, Nat.not_lt_zero, Nat.zero_le, ifT, ifF, not_true_eq_false, not_false_eq_true, if_true, if_false, or_self, and_self, true_and, and_true, or_true, true_or, false_or, or_false, false_and, and_false, Nat.add_sub_cancel]
    exact l
end TNM

/-! The class' explanation: leading astray, agreeing -/
section LDA
variable {E : aEnv} {c b ax wh : Nat} {ah : aHp} {A : Nat → Nat} {S : Nat → aE} {ms tu : Int32} {ei : Nat → Nat → Int32} {el : Nat → Nat → Int64} {r : Nat → Nat} {fg mq : Nat → Nat → Nat} {n : Nat} {sr : Nat → Int32} {mn : Nat → Nat} {tn : Nat → Nat → Int64}
theorem row_is {D : Nat → Int64} {X : Nat → Nat} (h : ∀ y, y < ax → D y = lN (X y)) : D = ovr D 0 ax (fun y => lN (X y)) := by
  funext y
  by_cases z : y < ax
  · rw [ovr0_in z, h y z]
  · rw [ovr_out (by omega)]
theorem c_lead (hO : XO E ah A) (h : XB E ah A b) (hb : 81 ≤ b) (hgr : egR ax wh r fg mq n ei el) (hq : ∀ q, q < 11 → S (b + q) = eC A b ax wh (lN (wt r wh)) ms tu ei el q) {a w0 k : Nat} (ha : a + 1 < ax) (hw : w0 < wh) (hk : k ≤ 2) {tl t a' w' k' : Int32} {Db Da as sh : Nat → Int64} {X Y : Nat → Nat} (hX : bA ax (wt r wh) X) (hY : bA ax (wt r wh) Y) : ∃ D', EV E (c + 3) 80 [.ref (A 3), .ref (A b), .int (nI a), .int (nI w0), .int (nI k)] (oh E ah A (exS A S tl t a' w' k' (ovr Db 0 ax (fun y => lN (X y))) (ovr Da 0 ax (fun y => lN (Y y))) as sh)) (some (.int (b2i (¬ dlN r (wt r wh) a w0 k X Y = 0)))) (oh E ah A (exS A S tl t a' w' k' (ovr Db 0 ax (fun y => lN (X y))) (ovr Da 0 ax (fun y => lN (Y y))) (ovr D' 0 ax (fun y => lN (asD a k (dlN r (wt r wh) a w0 k X Y) y))) sh)) := by
  have g0 := hgr.1
  have g1 := hgr.2.1
  have hr : ∀ w, w < wh → 2 ≤ r w ∧ r w ≤ 12 := fun w hw => (g1 w hw).2
  have hW := wt_63 g0.2.2.2 hr (Nat.le_refl wh)
  obtain ⟨d1, d2, d3, d4⟩ := dl_ls g0.2.2.2 hr (a := a) (k := k) hw (X := X) (Y := Y)
  have kl := c_lostBy (c := c) hO h hb hgr hq ha hw hk (tl := tl) (t := t) (a' := a') (w' := w') (k' := k') (Db := Db) (Da := Da) (as := as) (sh := sh) hX hY
  have hS := fun as => eSt_id (S := exS A S tl t a' w' k' (ovr Db 0 ax (fun y => lN (X y))) (ovr Da 0 ax (fun y => lN (Y y))) as sh) (A := A) (b := b) (ax := ax) (wh := wh) (al := lN (wt r wh)) (ms := ms) (tu := tu) (ei := ei) (el := el) (fun q hq' => by rw [exS_o (by omega)]; exact hq q hq')
  have p0 := fun as => p_0 (hS as) h
  have kf := c_fill (E := E) (c := c + 2) (x := 0) (n := 7) (by decide) (hx6 (S := S) (tl := tl) (t := t) (a := a') (w := w') (k := k') (bf := ovr Db 0 ax (fun y => lN (X y))) (af := ovr Da 0 ax (fun y => lN (Y y))) (as := as) (sh := sh) hO)
  rw [sx6 hO] at kf
  have ci3 : oCI (hg E (oh E ah A (exS A S tl t a' w' k' (ovr Db 0 ax (fun y => lN (X y))) (ovr Da 0 ax (fun y => lN (Y y))) as sh)) (A 3)) = 4 := by rw [hx3 hO]; rfl
  revert kl d1 d2 d3 d4
  generalize lsI r a w0 k X Y = L
  generalize dlN r (wt r wh) a w0 k X Y = d
  intro d1 d2 d3 d4 kl
  have e0 : (0 < iL L) = (0 < L) := by rw [iL_0, iL_lt (by omega) (by omega) (by omega) (by omega)]
  have e1 : (iL L ≤ 0) = (L ≤ 0) := by rw [iL_0, iL_le (by omega) (by omega) (by omega) (by omega)]
  have e2 : (iL L = 0) = (d = 0) := by rw [iL_0, iL_eq (by omega) (by omega) (by omega) (by omega)]; exact propext d2.symm
  have e3 : (if iL L ≤ 0 then -iL L else lN (wt r wh) - iL L) = lN d := by
    rw [lN_iL d, d1]
    by_cases z : 0 < L
    · rw [if_neg (by rw [e1]; omega), if_pos z, lN_iL, iL_sub]
    · rw [if_pos (by rw [e1]; omega), if_neg z, iL_neg]
  have f0 : ∀ y, y < 7 → fillF as 0 7 y = 0 := fun y hy => if_pos hy
  have e4 : ∀ (p : Prop) [Decidable p], (if ¬ p then (1 : Int32) else 0) = b2i (¬ p) := fun p _ => rfl
  have pa : a / 2 * 2 ≤ a := Nat.div_mul_le_self a 2
  have two : ¬ (2 : Int32) = 0 := by decide
  have fin : b2i (¬ d = 0) = if d = 0 then 0 else 1 := by
    by_cases y : d = 0 <;> simp [b2i, y]
  by_cases co : ¬ k = 0 ∧ 0 < a ∧ a % 2 = 0
  · have pa2 : a - a / 2 * 2 = 0 := by omega
    have rw1 := row_is (ax := ax) (D := vp_updL (vp_updL (fillF as 0 7) a (lN d)) (a - 1) (lN d)) (X := asD a k d) (fun y hy => by
      unfold asD
      by_cases z : y = a
      · rw [if_pos z, z, vup_ne (by omega), vup_at]
      · rw [if_neg z]
        by_cases z2 : y + 1 = a
        · rw [if_pos ⟨co.1, co.2.1, co.2.2, z2⟩, show y = a - 1 by omega, vup_at]
        · rw [if_neg (fun q => z2 q.2.2.2), vup_ne (by omega), vup_ne z, f0 y (by omega)]
          rfl)
    refine ⟨vp_updL (vp_updL (fillF as 0 7) a (lN d)) (a - 1) (lN d), e80 ?_⟩
    rw [← rw1, fin]
    by_cases z : iL L ≤ 0
    · rw [if_pos z] at e3
      simp (disch := first | assumption | omega | decide | (simp only [List.length_cons, List.length_nil, Nat.reduceAdd, Nat.reduceLT]; done) | fail) only [r80_0, r80_1, r80_1n, r80_2, r80_3, r80_4, r80_9, r80_11, r80_12, r80_15, r80_19, r80_20, r80_23, r80_24, r80_26, r80_27, r80_28, r80_31, r80_31n, r80_32, r80_35, r80_37, r80_38, r80_41, r80_43, r80_44, r80_45, r80_47, r80_50, r80_51, r80_54, r80_55, r80_57, r80_60, r80_61, r80_64, r80_65, r80_66, r80_67, r80_68, r80_71, r80_72, r80_73, r80_74, r80_76, r80_77, r80_78, r80_81, r80_82, r80_85, r80_86 (x := 0) (Or.inl rfl), r80_86 (x := 1) (Or.inr rfl), r80_86 (b2i_or _), r80_56, q80_6 kl ci3, q80_16 kf, p0, hx3 hO, hx6 hO, sx6 hO, gL, pL, oGF_is, WPo_some, List.getElem?_cons_succ, List.getElem?_cons_zero, kil_n, kil_i, kil_a, kil_u, kil_l, Option.toList_some, Option.toList_none, List.cons_append, List.nil_append, List.set_cons_succ, List.set_cons_zero, addm1, Nat.reduceAdd, List.length_cons, List.length_nil, Nat.reduceLT, nI_clamp, nI_toInt, nI_leL, nI_Lle, nI_ltL, nI_Llt, nI_eqL, nI_Leq, nI_leE, nI_ltE, nI_eqE, nI_eqM, nI_add, nI_addL, nI_Ladd, nI_mulL, nI_Lmul, pk_mul, pk_sub, nI_subL, nI_Lsub, i2l_nI, Int.toNat_natCast, Nat.not_lt_zero, Nat.zero_le, ifT, ifF, not_true_eq_false, not_false_eq_true, if_true, if_false, or_self, and_self, true_and, and_true, or_true, true_or, false_or, or_false, false_and, and_false, lg_cmp_le, lg_cmp_eq, z, e3, e2, co.1, nI_divL, pa2, vup_at]
      by_cases y : d = 0 <;> simp [y]
    · rw [if_neg z] at e3
      simp (disch := first | assumption | omega | decide | (simp only [List.length_cons, List.length_nil, Nat.reduceAdd, Nat.reduceLT]; done) | fail) only [r80_0, r80_1, r80_1n, r80_2, r80_3, r80_4, r80_9, r80_11, r80_12, r80_15, r80_19, r80_20, r80_23, r80_24, r80_26, r80_27, r80_28, r80_31, r80_31n, r80_32, r80_35, r80_37, r80_38, r80_41, r80_43, r80_44, r80_45, r80_47, r80_50, r80_51, r80_54, r80_55, r80_57, r80_60, r80_61, r80_64, r80_65, r80_66, r80_67, r80_68, r80_71, r80_72, r80_73, r80_74, r80_76, r80_77, r80_78, r80_81, r80_82, r80_85, r80_86 (x := 0) (Or.inl rfl), r80_86 (x := 1) (Or.inr rfl), r80_86 (b2i_or _), r80_56, q80_6 kl ci3, q80_16 kf, p0, hx3 hO, hx6 hO, sx6 hO, gL, pL, oGF_is, WPo_some, List.getElem?_cons_succ, List.getElem?_cons_zero, kil_n, kil_i, kil_a, kil_u, kil_l, Option.toList_some, Option.toList_none, List.cons_append, List.nil_append, List.set_cons_succ, List.set_cons_zero, addm1, Nat.reduceAdd, List.length_cons, List.length_nil, Nat.reduceLT, nI_clamp, nI_toInt, nI_leL, nI_Lle, nI_ltL, nI_Llt, nI_eqL, nI_Leq, nI_leE, nI_ltE, nI_eqE, nI_eqM, nI_add, nI_addL, nI_Ladd, nI_mulL, nI_Lmul, pk_mul, pk_sub, nI_subL, nI_Lsub, i2l_nI, Int.toNat_natCast, Nat.not_lt_zero, Nat.zero_le, ifT, ifF, not_true_eq_false, not_false_eq_true, if_true, if_false, or_self, and_self, true_and, and_true, or_true, true_or, false_or, or_false, false_and, and_false, lg_cmp_le, lg_cmp_eq, z, e3, e2, co.1, nI_divL, pa2, vup_at]
      by_cases y : d = 0 <;> simp [y]
  · have rw1 := row_is (ax := ax) (D := vp_updL (fillF as 0 7) a (lN d)) (X := asD a k d) (fun y hy => by
      unfold asD
      by_cases z : y = a
      · rw [if_pos z, z, vup_at]
      · rw [if_neg z, if_neg (fun q => co ⟨q.1, q.2.1, q.2.2.1⟩), vup_ne z, f0 y (by omega)]
        rfl)
    refine ⟨vp_updL (fillF as 0 7) a (lN d), e80 ?_⟩
    rw [← rw1, fin]
    have rest : ∀ Q : Option Value → aHp → Prop, ∀ ah', WP E (c + 3) 80 74 [some (.ref (A 3)), some (.ref (A b)), some (.int (nI a)), some (.int (nI w0)), some (.int (nI k)), some (.long (iL L)), none] [] ah' Q → WP E (c + 3) 80 45 [some (.ref (A 3)), some (.ref (A b)), some (.int (nI a)), some (.int (nI w0)), some (.int (nI k)), some (.long (iL L)), none] [] ah' Q := by
      intro Q ah' K
      by_cases k0 : k = 0
      · simp (disch := first | assumption | omega | decide | (simp only [List.length_cons, List.length_nil, Nat.reduceAdd, Nat.reduceLT]; done) | fail) only [r80_45, r80_47, oGF_is, WPo_some, List.getElem?_cons_succ, List.getElem?_cons_zero, kil_n, kil_i, kil_a, kil_u, kil_l, Option.toList_some, Option.toList_none, List.cons_append, List.nil_append, List.set_cons_succ, List.set_cons_zero, addm1, Nat.reduceAdd, List.length_cons, List.length_nil, Nat.reduceLT, nI_clamp, nI_toInt, nI_leL, nI_Lle, nI_ltL, nI_Llt, nI_eqL, nI_Leq, nI_leE, nI_ltE, nI_eqE, nI_eqM, nI_add, nI_addL, nI_Ladd, nI_mulL, nI_Lmul, pk_mul, pk_sub, nI_subL, nI_Lsub, i2l_nI, Int.toNat_natCast, Nat.not_lt_zero, Nat.zero_le, ifT, ifF, not_true_eq_false, not_false_eq_true, if_true, if_false, or_self, and_self, true_and, and_true, or_true, true_or, false_or, or_false, false_and, and_false, k0]
        rw [k0] at K
        exact K
      · by_cases a0 : 0 < a
        · have pa2 : a - a / 2 * 2 = 1 := by omega
          simp (disch := first | assumption | omega | decide | (simp only [List.length_cons, List.length_nil, Nat.reduceAdd, Nat.reduceLT]; done) | fail) only [r80_45, r80_47, r80_50, r80_51, r80_54, r80_55, r80_57, r80_56, oGF_is, WPo_some, List.getElem?_cons_succ, List.getElem?_cons_zero, kil_n, kil_i, kil_a, kil_u, kil_l, Option.toList_some, Option.toList_none, List.cons_append, List.nil_append, List.set_cons_succ, List.set_cons_zero, addm1, Nat.reduceAdd, List.length_cons, List.length_nil, Nat.reduceLT, nI_clamp, nI_toInt, nI_leL, nI_Lle, nI_ltL, nI_Llt, nI_eqL, nI_Leq, nI_leE, nI_ltE, nI_eqE, nI_eqM, nI_add, nI_addL, nI_Ladd, nI_mulL, nI_Lmul, pk_mul, pk_sub, nI_subL, nI_Lsub, i2l_nI, Int.toNat_natCast, Nat.not_lt_zero, Nat.zero_le, ifT, ifF, not_true_eq_false, not_false_eq_true, if_true, if_false, or_self, and_self, true_and, and_true, or_true, true_or, false_or, or_false, false_and, and_false, k0, nI_divL, pa2]
          exact K
        · simp (disch := first | assumption | omega | decide | (simp only [List.length_cons, List.length_nil, Nat.reduceAdd, Nat.reduceLT]; done) | fail) only [r80_45, r80_47, r80_50, r80_51, oGF_is, WPo_some, List.getElem?_cons_succ, List.getElem?_cons_zero, kil_n, kil_i, kil_a, kil_u, kil_l, Option.toList_some, Option.toList_none, List.cons_append, List.nil_append, List.set_cons_succ, List.set_cons_zero, addm1, Nat.reduceAdd, List.length_cons, List.length_nil, Nat.reduceLT, nI_clamp, nI_toInt, nI_leL, nI_Lle, nI_ltL, nI_Llt, nI_eqL, nI_Leq, nI_leE, nI_ltE, nI_eqE, nI_eqM, nI_add, nI_addL, nI_Ladd, nI_mulL, nI_Lmul, pk_mul, pk_sub, nI_subL, nI_Lsub, i2l_nI, Int.toNat_natCast, Nat.not_lt_zero, Nat.zero_le, ifT, ifF, not_true_eq_false, not_false_eq_true, if_true, if_false, or_self, and_self, true_and, and_true, or_true, true_or, false_or, or_false, false_and, and_false, k0]
          exact K
    have last : WP E (c + 3) 80 74 [some (.ref (A 3)), some (.ref (A b)), some (.int (nI a)), some (.int (nI w0)), some (.int (nI k)), some (.long (iL L)), none] [] (oh E ah A (exS A S tl t a' w' k' (ovr Db 0 ax (fun y => lN (X y))) (ovr Da 0 ax (fun y => lN (Y y))) (vp_updL (fillF as 0 7) a (lN d)) sh)) (fun r1 x1 => r1 = some (.int (if d = 0 then 0 else 1)) ∧ x1 = oh E ah A (exS A S tl t a' w' k' (ovr Db 0 ax (fun y => lN (X y))) (ovr Da 0 ax (fun y => lN (Y y))) (vp_updL (fillF as 0 7) a (lN d)) sh)) := by
      by_cases y : d = 0
      · simp (disch := first | assumption | omega | decide | (simp only [List.length_cons, List.length_nil, Nat.reduceAdd, Nat.reduceLT]; done) | fail) only [r80_74, r80_76, r80_77, r80_78, r80_81, r80_82, r80_85, r80_86 (x := 0) (Or.inl rfl), r80_86 (x := 1) (Or.inr rfl), r80_86 (b2i_or _), oGF_is, WPo_some, List.getElem?_cons_succ, List.getElem?_cons_zero, kil_n, kil_i, kil_a, kil_u, kil_l, Option.toList_some, Option.toList_none, List.cons_append, List.nil_append, List.set_cons_succ, List.set_cons_zero, addm1, Nat.reduceAdd, List.length_cons, List.length_nil, Nat.reduceLT, not_true_eq_false, not_false_eq_true, if_true, if_false, or_self, and_self, true_and, and_true, or_true, true_or, false_or, or_false, false_and, and_false, lg_cmp_eq, e2, y]
      · simp (disch := first | assumption | omega | decide | (simp only [List.length_cons, List.length_nil, Nat.reduceAdd, Nat.reduceLT]; done) | fail) only [r80_74, r80_76, r80_77, r80_78, r80_81, r80_82, r80_85, r80_86 (x := 0) (Or.inl rfl), r80_86 (x := 1) (Or.inr rfl), r80_86 (b2i_or _), oGF_is, WPo_some, List.getElem?_cons_succ, List.getElem?_cons_zero, kil_n, kil_i, kil_a, kil_u, kil_l, Option.toList_some, Option.toList_none, List.cons_append, List.nil_append, List.set_cons_succ, List.set_cons_zero, addm1, Nat.reduceAdd, List.length_cons, List.length_nil, Nat.reduceLT, not_true_eq_false, not_false_eq_true, if_true, if_false, or_self, and_self, true_and, and_true, or_true, true_or, false_or, or_false, false_and, and_false, lg_cmp_eq, e2, y]
    have l2 := rest _ _ last
    by_cases z : iL L ≤ 0
    · rw [if_pos z] at e3
      simp (disch := first | assumption | omega | decide | (simp only [List.length_cons, List.length_nil, Nat.reduceAdd, Nat.reduceLT]; done) | fail) only [r80_0, r80_1, r80_1n, r80_2, r80_3, r80_4, r80_9, r80_11, r80_12, r80_15, r80_19, r80_20, r80_23, r80_24, r80_26, r80_27, r80_28, r80_31, r80_31n, r80_32, r80_35, r80_37, r80_38, r80_41, r80_43, r80_44, q80_6 kl ci3, q80_16 kf, p0, hx3 hO, hx6 hO, sx6 hO, gL, pL, oGF_is, WPo_some, List.getElem?_cons_succ, List.getElem?_cons_zero, kil_n, kil_i, kil_a, kil_u, kil_l, Option.toList_some, Option.toList_none, List.cons_append, List.nil_append, List.set_cons_succ, List.set_cons_zero, addm1, Nat.reduceAdd, List.length_cons, List.length_nil, Nat.reduceLT, nI_clamp, nI_toInt, nI_leL, nI_Lle, nI_ltL, nI_Llt, nI_eqL, nI_Leq, nI_leE, nI_ltE, nI_eqE, nI_eqM, nI_add, nI_addL, nI_Ladd, nI_mulL, nI_Lmul, pk_mul, pk_sub, nI_subL, nI_Lsub, i2l_nI, Int.toNat_natCast, Nat.not_lt_zero, Nat.zero_le, ifT, ifF, not_true_eq_false, not_false_eq_true, if_true, if_false, or_self, and_self, true_and, and_true, or_true, true_or, false_or, or_false, false_and, and_false, lg_cmp_le, z, e3]
      exact l2
    · rw [if_neg z] at e3
      simp (disch := first | assumption | omega | decide | (simp only [List.length_cons, List.length_nil, Nat.reduceAdd, Nat.reduceLT]; done) | fail) only [r80_0, r80_1, r80_1n, r80_2, r80_3, r80_4, r80_9, r80_11, r80_12, r80_15, r80_19, r80_20, r80_23, r80_24, r80_26, r80_27, r80_28, r80_31, r80_31n, r80_32, r80_35, r80_37, r80_38, r80_41, r80_43, r80_44, q80_6 kl ci3, q80_16 kf, p0, hx3 hO, hx6 hO, sx6 hO, gL, pL, oGF_is, WPo_some, List.getElem?_cons_succ, List.getElem?_cons_zero, kil_n, kil_i, kil_a, kil_u, kil_l, Option.toList_some, Option.toList_none, List.cons_append, List.nil_append, List.set_cons_succ, List.set_cons_zero, addm1, Nat.reduceAdd, List.length_cons, List.length_nil, Nat.reduceLT, nI_clamp, nI_toInt, nI_leL, nI_Lle, nI_ltL, nI_Llt, nI_eqL, nI_Leq, nI_leE, nI_ltE, nI_eqE, nI_eqM, nI_add, nI_addL, nI_Ladd, nI_mulL, nI_Lmul, pk_mul, pk_sub, nI_subL, nI_Lsub, i2l_nI, Int.toNat_natCast, Nat.not_lt_zero, Nat.zero_le, ifT, ifF, not_true_eq_false, not_false_eq_true, if_true, if_false, or_self, and_self, true_and, and_true, or_true, true_or, false_or, or_false, false_and, and_false, lg_cmp_le, z, e3]
      exact l2
theorem l_agr (hO : XO E ah A) (h : XB E ah A b) (hb : 81 ≤ b) (hgr : egR ax wh r fg mq n ei el) (hq : ∀ q, q < 11 → S (b + q) = eC A b ax wh (lN (wt r wh)) ms tu ei el q) (ht : trS A S sr mn tn) {j R : Nat} (hj : j < 4) (hR : R ≤ mn j) (hR60 : R ≤ 60) {tl t a' w' k' : Int32} {bf af SH Das : Nat → Int64} {X D : Nat → Nat} (hX : bA ax (wt r wh) X) (hD : bA ax (wt r wh) D) {row : Nat} {Q : Option Value → aHp → Prop} (K1 : agr ax (wt r wh) X D (sr j) (tn j) R row → ∀ as', Q (some (.int 1)) (oh E ah A (exS A S tl t a' w' k' bf af as' (ovr SH 0 R (fun y => lN (rX ax (wt r wh) (y + 1) X 0)))))) (K0 : ¬ agr ax (wt r wh) X D (sr j) (tn j) R row → ∀ as', Q (some (.int 0)) (oh E ah A (exS A S tl t a' w' k' bf af as' (ovr SH 0 R (fun y => lN (rX ax (wt r wh) (y + 1) X 0)))))) : ∀ z m l6, row + m + z = R → (∀ i, row ≤ i → i < row + m → cutF (sr j) (lN ((rX ax (wt r wh) (i + 1) X 0 + rX ax (wt r wh) (i - row) D 0) % wt r wh)) = tn j i) → WP E (c + 3) 81 3 [some (.ref (A 3)), some (.ref (A b)), some (.ref (A (73 + 2 * j))), some (.int (nI row)), some (.int (nI R)), some (.int (nI (row + m))), l6, none] [] (oh E ah A (exS A S tl t a' w' k' bf af (ovr Das 0 ax (fun y => lN (rX ax (wt r wh) m D y))) (ovr SH 0 R (fun y => lN (rX ax (wt r wh) (y + 1) X 0))))) Q
  | 0, m, l6, hz, hk => by
    have K := K1 (fun i h1 h2 => hk i h1 (by omega)) (ovr Das 0 ax (fun y => lN (rX ax (wt r wh) m D y)))
    rw [r81_3]
    simp (disch := first | assumption | omega | decide | (simp only [List.length_cons, List.length_nil, Nat.reduceAdd, Nat.reduceLT]; done) | fail) only [r81_5, r81_7, r81_71, r81_72 (x := 0) (Or.inl rfl), r81_72 (x := 1) (Or.inr rfl), r81_72 (b2i_or _), oGF_is, WPo_some, List.getElem?_cons_succ, List.getElem?_cons_zero, kil_n, kil_i, kil_a, kil_u, kil_l, Option.toList_some, Option.toList_none, List.cons_append, List.nil_append, List.set_cons_succ, List.set_cons_zero, addm1, Nat.reduceAdd, List.length_cons, List.length_nil, Nat.reduceLT, nI_clamp, nI_toInt, nI_leL, nI_Lle, nI_ltL, nI_Llt, nI_eqL, nI_Leq, nI_leE, nI_ltE, nI_eqE, nI_eqM, nI_add, nI_addL, nI_Ladd, nI_mulL, nI_Lmul, pk_mul, pk_sub, nI_subL, nI_Lsub, i2l_nI, Int.toNat_natCast, Nat.not_lt_zero, Nat.zero_le, ifT, ifF, not_true_eq_false, not_false_eq_true, if_true, if_false, or_self, and_self, true_and, and_true, or_true, true_or, false_or, or_false, false_and, and_false]
    exact K
  | z + 1, m, l6, hz, hk => by
    have g0 := hgr.1
    have hW := wt_63 g0.2.2.2 (fun w hw => (hgr.2.1 w hw).2) (Nat.le_refl wh)
    have bX := rX_b (ax := ax) hW.1 hX (row + m + 1) 0 (by omega)
    have bD := rX_b (ax := ax) hW.1 hD m 0 (by omega)
    have z0 : 0 < ax := by omega
    have s1 := fun ah => c_sum (E := E) (c := c + 2) (ah := ah) bX bD hW.2
    have p0 := fun as => p_0 (S := exS A S tl t a' w' k' bf af as (ovr SH 0 R (fun y => lN (rX ax (wt r wh) (y + 1) X 0)))) (eSt_id (fun q hq' => by rw [exS_o (by omega)]; exact hq q hq')) h
    have ht1 : trS A (exS A S tl t a' w' k' bf af (ovr Das 0 ax (fun y => lN (rX ax (wt r wh) m D y))) (ovr SH 0 R (fun y => lN (rX ax (wt r wh) (y + 1) X 0)))) sr mn tn := ht.fr (fun q hq => exS_o (by omega))
    have hT1 := ht1.TR hO hj
    have kt := c_turnAxes (E := E) (c := c) (p := A 6) g0.2.1 hW.2 hW.1 (rX_b (ax := ax) hW.1 hD m) (hx6 (S := S) (tl := tl) (t := t) (a := a') (w := w') (k := k') (bf := bf) (af := af) (as := ovr Das 0 ax (fun y => lN (rX ax (wt r wh) m D y))) (sh := ovr SH 0 R (fun y => lN (rX ax (wt r wh) (y + 1) X 0))) hO)
    rw [sx6 hO] at kt
    rw [r81_3]
    by_cases ok : cutF (sr j) (lN ((rX ax (wt r wh) (row + m + 1) X 0 + rX ax (wt r wh) m D 0) % wt r wh)) = tn j (row + m)
    · have ih := l_agr hO h hb hgr hq ht hj hR hR60 (tl := tl) (t := t) (a' := a') (w' := w') (k' := k') (bf := bf) (af := af) (SH := SH) (Das := Das) hX hD K1 K0 z (m + 1) (some (.long (lN ((rX ax (wt r wh) (row + m + 1) X 0 + rX ax (wt r wh) m D 0) % wt r wh)))) (by omega) (fun i h1 h2 => by
        by_cases y : i = row + m
        · rw [y, show row + m - row = m by omega]
          exact ok
        · exact hk i h1 (by omega))
      simp (disch := first | assumption | omega | decide | (simp only [List.length_cons, List.length_nil, Nat.reduceAdd, Nat.reduceLT]; done) | fail) only [r81_5, r81_7, r81_10, r81_11, r81_14, r81_16, r81_17, r81_18, r81_21, r81_22, r81_23, r81_23n, r81_24, r81_30, r81_32, r81_32n, r81_33, r81_38, r81_38n, r81_39, r81_44, r81_45, r81_48, r81_49 (x := 0) (Or.inl rfl), r81_49 (x := 1) (Or.inr rfl), r81_49 (b2i_or _), r81_50, r81_51, r81_54, r81_54n, r81_55, r81_58, r81_58n, r81_59, r81_65, r81_68, q81_27 (s1 _), q81_35 (c_cut hT1) hT1.ci, q81_41 (c_at hT1 (show row + m < mn j by omega)) hT1.ci, q81_62 kt, p0, hx3 hO, hx6 hO, hx7 hO, gL, oGF_is, WPo_some, List.getElem?_cons_succ, List.getElem?_cons_zero, kil_n, kil_i, kil_a, kil_u, kil_l, Option.toList_some, Option.toList_none, List.cons_append, List.nil_append, List.set_cons_succ, List.set_cons_zero, addm1, Nat.reduceAdd, List.length_cons, List.length_nil, Nat.reduceLT, nI_clamp, nI_toInt, nI_leL, nI_Lle, nI_ltL, nI_Llt, nI_eqL, nI_Leq, nI_leE, nI_ltE, nI_eqE, nI_eqM, nI_add, nI_addL, nI_Ladd, nI_mulL, nI_Lmul, pk_mul, pk_sub, nI_subL, nI_Lsub, i2l_nI, Int.toNat_natCast, Nat.not_lt_zero, Nat.zero_le, ifT, ifF, not_true_eq_false, not_false_eq_true, if_true, if_false, or_self, and_self, true_and, and_true, or_true, true_or, false_or, or_false, false_and, and_false, ovr0_in, lg_cmp_eq, ok, show (0 : Int32).toNatClampNeg = 0 by decide]
      exact ih
    · have K := K0 (fun y => ok (by have := y (row + m) (by omega) (by omega); rw [show row + m - row = m by omega] at this; exact this)) (ovr Das 0 ax (fun y => lN (rX ax (wt r wh) m D y)))
      simp (disch := first | assumption | omega | decide | (simp only [List.length_cons, List.length_nil, Nat.reduceAdd, Nat.reduceLT]; done) | fail) only [r81_5, r81_7, r81_10, r81_11, r81_14, r81_16, r81_17, r81_18, r81_21, r81_22, r81_23, r81_23n, r81_24, r81_30, r81_32, r81_32n, r81_33, r81_38, r81_38n, r81_39, r81_44, r81_45, r81_48, r81_49 (x := 0) (Or.inl rfl), r81_49 (x := 1) (Or.inr rfl), r81_49 (b2i_or _), q81_27 (s1 _), q81_35 (c_cut hT1) hT1.ci, q81_41 (c_at hT1 (show row + m < mn j by omega)) hT1.ci, p0, hx3 hO, hx6 hO, hx7 hO, gL, oGF_is, WPo_some, List.getElem?_cons_succ, List.getElem?_cons_zero, kil_n, kil_i, kil_a, kil_u, kil_l, Option.toList_some, Option.toList_none, List.cons_append, List.nil_append, List.set_cons_succ, List.set_cons_zero, addm1, Nat.reduceAdd, List.length_cons, List.length_nil, Nat.reduceLT, nI_clamp, nI_toInt, nI_leL, nI_Lle, nI_ltL, nI_Llt, nI_eqL, nI_Leq, nI_leE, nI_ltE, nI_eqE, nI_eqM, nI_add, nI_addL, nI_Ladd, nI_mulL, nI_Lmul, pk_mul, pk_sub, nI_subL, nI_Lsub, i2l_nI, Int.toNat_natCast, Nat.not_lt_zero, Nat.zero_le, ifT, ifF, not_true_eq_false, not_false_eq_true, if_true, if_false, or_self, and_self, true_and, and_true, or_true, true_or, false_or, or_false, false_and, and_false, ovr0_in, lg_cmp_eq, ok, show (0 : Int32).toNatClampNeg = 0 by decide]
      exact K
theorem c_agr (hO : XO E ah A) (h : XB E ah A b) (hb : 81 ≤ b) (hgr : egR ax wh r fg mq n ei el) (hq : ∀ q, q < 11 → S (b + q) = eC A b ax wh (lN (wt r wh)) ms tu ei el q) (ht : trS A S sr mn tn) {j R : Nat} (hj : j < 4) (hR : R ≤ mn j) (hR60 : R ≤ 60) {tl t a' w' k' : Int32} {bf af SH Das : Nat → Int64} {X D : Nat → Nat} (hX : bA ax (wt r wh) X) (hD : bA ax (wt r wh) D) {row : Nat} (hrow : row ≤ R) : ∃ as', EV E (c + 3) 81 [.ref (A 3), .ref (A b), .ref (A (73 + 2 * j)), .int (nI row), .int (nI R)] (oh E ah A (exS A S tl t a' w' k' bf af (ovr Das 0 ax (fun y => lN (D y))) (ovr SH 0 R (fun y => lN (rX ax (wt r wh) (y + 1) X 0))))) (some (.int (bC (agr ax (wt r wh) X D (sr j) (tn j) R row)))) (oh E ah A (exS A S tl t a' w' k' bf af as' (ovr SH 0 R (fun y => lN (rX ax (wt r wh) (y + 1) X 0))))) := by
  have l := l_agr (c := c) hO h hb hgr hq ht hj hR hR60 (tl := tl) (t := t) (a' := a') (w' := w') (k' := k') (bf := bf) (af := af) (SH := SH) (Das := Das) hX hD (row := row) (Q := fun r1 x1 => ∃ as', r1 = some (.int (bC (agr ax (wt r wh) X D (sr j) (tn j) R row))) ∧ x1 = oh E ah A (exS A S tl t a' w' k' bf af as' (ovr SH 0 R (fun y => lN (rX ax (wt r wh) (y + 1) X 0))))) (fun y as' => ⟨as', by rw [bC_t y], rfl⟩) (fun y as' => ⟨as', by rw [bC_f y], rfl⟩) (R - row) 0 none (by omega) (fun i h1 h2 => absurd h2 (by omega))
  obtain ⟨r1, x1, ⟨as', hr1, hx1⟩, hw⟩ := l.ex
  subst hr1 hx1
  refine ⟨as', e81 ?_⟩
  simp (disch := first | assumption | omega | decide | (simp only [List.length_cons, List.length_nil, Nat.reduceAdd, Nat.reduceLT]; done) | fail) only [r81_0, r81_1, oGF_is, WPo_some, List.getElem?_cons_succ, List.getElem?_cons_zero, kil_n, kil_i, kil_a, kil_u, kil_l, Option.toList_some, Option.toList_none, List.cons_append, List.nil_append, List.set_cons_succ, List.set_cons_zero, addm1, Nat.reduceAdd, List.length_cons, List.length_nil, Nat.reduceLT]
  exact hw
theorem c_tellOf (hO : XO E ah A) {tl t a w k t' a' w' k' : Int32} {bf af as sh : Nat → Int64} : EV E c 79 [.ref (A 3), .int t', .int a', .int w', .int k'] (oh E ah A (exS A S tl t a w k bf af as sh)) none (oh E ah A (exS A S 1 t' a' w' k' bf af as sh)) := by
  refine e79 ?_
  simp (disch := first | assumption | omega | decide | (simp only [List.length_cons, List.length_nil, Nat.reduceAdd, Nat.reduceLT]; done) | fail) only [r79_0, r79_1, r79_2, r79_5, r79_6, r79_7, r79_10, r79_11, r79_12, r79_15, r79_16, r79_17, r79_20, r79_21, r79_23, r79_26, hx3 hO, sx3 hO, pf_4043 (Or.inr rfl), pf_4050, pf_4060, pf_4070, pf_4080, oGF_is, WPo_some, List.getElem?_cons_succ, List.getElem?_cons_zero, kil_n, kil_i, kil_a, kil_u, kil_l, Option.toList_some, Option.toList_none, List.cons_append, List.nil_append, List.set_cons_succ, List.set_cons_zero, addm1, Nat.reduceAdd, List.length_cons, List.length_nil, Nat.reduceLT, not_true_eq_false, not_false_eq_true, if_true, if_false, or_self, and_self, true_and, and_true, or_true, true_or, false_or, or_false, false_and, and_false]
end LDA

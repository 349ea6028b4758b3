/-! The class' explanation: what is lost -/
noncomputable def lsI (r : Nat → Nat) (a w0 k : Nat) (X Y : Nat → Nat) : Int :=
  if k = 0 then (if 0 < Y a / wt r w0 % r w0 then (wt r w0 : Int) else -(((r w0 - 1 : Nat) : Int) * (wt r w0 : Int)))
  else if k = 2 then (((if a % 2 = 0 then X (a + 1) else Y (a + 1)) / wt r w0 % r w0 * wt r w0 : Nat) : Int)
  else if wt r w0 ≤ X a % wt r w0 + (if a % 2 = 0 then X (a + 1) else Y (a + 1)) % wt r w0 then (wt r w0 : Int) else 0
theorem dl_ls {wh : Nat} {r : Nat → Nat} (h12 : wh ≤ 12) (hr : ∀ w, w < wh → 2 ≤ r w ∧ r w ≤ 12) {a w0 k : Nat} (hw : w0 < wh) {X Y : Nat → Nat} : (dlN r (wt r wh) a w0 k X Y : Int) = (if 0 < lsI r a w0 k X Y then (wt r wh : Int) - lsI r a w0 k X Y else - lsI r a w0 k X Y) ∧ (dlN r (wt r wh) a w0 k X Y = 0 ↔ lsI r a w0 k X Y = 0) ∧ -9000000000000 < lsI r a w0 k X Y ∧ lsI r a w0 k X Y < (wt r wh : Int) := by
  have p0 := wt_pos hr wh (Nat.le_refl _)
  have pw := wt_pos hr w0 (by omega)
  have b1 := wt_big hr hw
  have r0 := hr w0 hw
  have b2 : (r w0 - 1) * wt r w0 + wt r w0 = r w0 * wt r w0 := by
    rw [← Nat.succ_mul]
    congr 1
    omega
  have b3 : 2 * wt r w0 ≤ r w0 * wt r w0 := Nat.mul_le_mul_right _ r0.1
  have b4 : ((r w0 - 1 : Nat) : Int) * (wt r w0 : Int) = (((r w0 - 1) * wt r w0 : Nat) : Int) := by rw [Int.natCast_mul]
  have b5 : ∀ d, d < r w0 → d * wt r w0 + wt r w0 ≤ r w0 * wt r w0 := fun d hd => by
    rw [← Nat.succ_mul]
    exact Nat.mul_le_mul_right _ hd
  have b6 : 1 ≤ r w0 - 1 := by omega
  have b7 : 1 * wt r w0 ≤ (r w0 - 1) * wt r w0 := Nat.mul_le_mul_right _ b6
  have b8 : (wt r wh : Int) < 9000000000000 := by
    have := (wt_63 h12 hr (Nat.le_refl wh)).2
    omega
  unfold dlN lsI
  rw [b4]
  by_cases k0 : k = 0
  · simp only [k0, if_true]
    by_cases z : 0 < Y a / wt r w0 % r w0
    · simp only [z, if_true]
      rw [if_pos (by omega)]
      omega
    · simp only [z, if_false]
      rw [if_neg (by omega)]
      omega
  · by_cases k2 : k = 2
    · simp only [k0, k2, if_true, if_false]
      have b9 := b5 _ (Nat.mod_lt ((if a % 2 = 0 then X (a + 1) else Y (a + 1)) / wt r w0) (show 0 < r w0 by omega))
      generalize (if a % 2 = 0 then X (a + 1) else Y (a + 1)) / wt r w0 % r w0 * wt r w0 = L at b9 ⊢
      simp only [Nat.reduceEqDiff, if_false]
      by_cases z : 0 < L
      · rw [if_pos z, if_pos (by omega)]
        omega
      · rw [if_neg z, if_neg (by omega)]
        omega
    · simp only [k0, k2, if_false]
      by_cases z : wt r w0 ≤ X a % wt r w0 + (if a % 2 = 0 then X (a + 1) else Y (a + 1)) % wt r w0
      · simp only [z, if_true]
        rw [if_pos (by omega)]
        omega
      · simp only [z, if_false]
        simp
        omega
theorem ineg_l {m : Nat} (hm : m < 2 ^ 31) : (-(nI m)).toInt64 = iL (-(m : Int)) := by
  apply Int64.toInt_inj.mp
  rw [i2l_toInt, Int32.toInt_neg, nI_toInt hm, bm32 (by omega) (by omega), iL_toInt (by omega) (by omega)]
section LST
variable {E : aEnv} {c b ax wh : Nat} {ah : aHp} {A : Nat → Nat} {S : Nat → aE} {ms tu : Int32} {ei : Nat → Nat → Int32} {el : Nat → Nat → Int64} {r : Nat → Nat} {fg mq : Nat → Nat → Nat} {n : Nat}
theorem p_figureOf {al : Int64} (hS : eSt A S b ax wh al ms tu ei el = S) (h : XB E ah A b) (hw : wh ≤ 12) {w U : Nat} (h2 : w < wh) (hU : U < 2 ^ 63) (hr : ∀ w, w < wh → ei 6 w = nI (r w) ∧ 2 ≤ r w ∧ r w ≤ 12) (hl : ∀ w, w < wh → el 7 w = lN (wt r w)) : EV E (c + 1) 41 [.ref (A b), .long (lN U), .int (nI w)] (oh E ah A S) (some (.int (nI (U / wt r w % r w)))) (oh E ah A S) := by
  have k := c_figureOf (c := c) (S := S) (ax := ax) (al := al) (ms := ms) (tu := tu) h hw h2 hU hr hl
  rw [hS] at k
  exact k
theorem p_7 {al : Int64} (hS : eSt A S b ax wh al ms tu ei el = S) (h : XB E ah A b) : hg E (oh E ah A S) (A (b + 7)) = some (.inl (1, wh, .inr (.inl (el 7)))) := by
  have k := ge_7 (S := S) (ax := ax) (wh := wh) (al := al) (ms := ms) (tu := tu) (ei := ei) (el := el) h
  rw [hS] at k
  exact k
theorem p_6 {al : Int64} (hS : eSt A S b ax wh al ms tu ei el = S) (h : XB E ah A b) : hg E (oh E ah A S) (A (b + 6)) = some (.inl (0, wh, .inl (ei 6))) := by
  have k := ge_6 (S := S) (ax := ax) (wh := wh) (al := al) (ms := ms) (tu := tu) (ei := ei) (el := el) h
  rw [hS] at k
  exact k
theorem c_lostBy (hO : XO E ah A) (h : XB E ah A b) (hb : 81 ≤ b) (hg : egR ax wh r fg mq n ei el) (hq : ∀ q, q < 11 → S (b + q) = eC A b ax wh (lN (wt r wh)) ms tu ei el q) {a w0 k : Nat} (ha : a + 1 < ax) (hw : w0 < wh) (hk : k ≤ 2) {tl t a' w' k' : Int32} {Db Da as sh : Nat → Int64} {X Y : Nat → Nat} (hX : bA ax (wt r wh) X) (hY : bA ax (wt r wh) Y) : EV E (c + 2) 82 [.ref (A 3), .ref (A b), .int (nI a), .int (nI w0), .int (nI k)] (oh E ah A (exS A S tl t a' w' k' (ovr Db 0 ax (fun y => lN (X y))) (ovr Da 0 ax (fun y => lN (Y y))) as sh)) (some (.long (iL (lsI r a w0 k X Y)))) (oh E ah A (exS A S tl t a' w' k' (ovr Db 0 ax (fun y => lN (X y))) (ovr Da 0 ax (fun y => lN (Y y))) as sh)) := by
  refine e82 ?_
  obtain ⟨g0, g1, g2, g3, g4, g5⟩ := hg
  have hS := eSt_id (S := exS A S tl t a' w' k' (ovr Db 0 ax (fun y => lN (X y))) (ovr Da 0 ax (fun y => lN (Y y))) as sh) (A := A) (b := b) (ax := ax) (wh := wh) (al := lN (wt r wh)) (ms := ms) (tu := tu) (ei := ei) (el := el) (fun q hq' => by rw [exS_o (by omega)]; exact hq q hq')
  have hW := wt_63 g0.2.2.2 (fun w hw => (g1 w hw).2) (Nat.le_refl wh)
  have pw := wt_63 g0.2.2.2 (fun w hw => (g1 w hw).2) (show w0 ≤ wh by omega)
  obtain ⟨r1, r2, r3⟩ := g1 w0 hw
  have l1 := g2 w0 hw
  have x0 := hX a (by omega)
  have x1 := hX (a + 1) ha
  have y0 := hY a (by omega)
  have y1 := hY (a + 1) ha
  have f1 := fun U (hU : U < 2 ^ 63) => p_figureOf (c := c) hS h g0.2.2.2 hw hU g1 g2
  have two : ¬ (2 : Int32) = 0 := by decide
  have wp : ¬ lN (wt r w0) = 0 := fun z => by
    have := congrArg Int64.toInt z
    rw [lN_toInt63 (by omega)] at this
    have e : (0 : Int64).toInt = 0 := rfl
    omega
  have wp2 : 0 < lN (wt r w0) := by
    rw [show (0 : Int64) = lN 0 from rfl, lN_lt63 (by omega) (by omega)]
    omega
  have pa : a / 2 * 2 ≤ a := Nat.div_mul_le_self a 2
  by_cases k0 : k = 0
  · subst k0
    have e1 : lsI r a w0 0 X Y = if 0 < Y a / wt r w0 % r w0 then (wt r w0 : Int) else -(((r w0 - 1 : Nat) : Int) * (wt r w0 : Int)) := if_pos rfl
    have md : Y a / wt r w0 % r w0 < r w0 := Nat.mod_lt _ (by omega)
    rw [e1]
    by_cases z : 0 < Y a / wt r w0 % r w0
    · rw [if_pos z, ← lN_iL]
      simp (disch := first | assumption | omega | decide | (simp only [List.length_cons, List.length_nil, Nat.reduceAdd, Nat.reduceLT]; done) | fail) only [r82_0, r82_0n, r82_1, r82_4, r82_5, r82_6, r82_8, r82_10, r82_13, r82_13n, r82_14, r82_15, r82_18, r82_19, r82_20, r82_24, r82_27, r82_29, r82_32, r82_32n, r82_33, r82_36, r82_37, r82_38, r82_39, r82_40, r82_41, r82_42, r82_44, r82_45, p_0 hS h, p_7 hS h, hx3 hO, hx5 hO, gL, l1, ovr0_in, q82_21 (f1 (Y a) (by omega)) (p_ci hS h), oGF_is, WPo_some, List.getElem?_cons_succ, List.getElem?_cons_zero, kil_n, kil_i, kil_a, kil_u, kil_l, Option.toList_some, Option.toList_none, List.cons_append, List.nil_append, List.set_cons_succ, List.set_cons_zero, addm1, Nat.reduceAdd, List.length_cons, List.length_nil, Nat.reduceLT, nI_clamp, nI_toInt, nI_leL, nI_Lle, nI_ltL, nI_Llt, nI_eqL, nI_Leq, nI_leE, nI_ltE, nI_eqE, nI_eqM, nI_add, nI_addL, nI_Ladd, nI_mulL, nI_Lmul, pk_mul, pk_sub, nI_subL, nI_Lsub, i2l_nI, Int.toNat_natCast, Nat.not_lt_zero, Nat.zero_le, ifT, ifF, not_true_eq_false, not_false_eq_true, if_true, if_false, or_self, and_self, true_and, and_true, or_true, true_or, false_or, or_false, false_and, and_false]
    · rw [if_neg z]
      have e2 : iL (-((r w0 - 1 : Nat) : Int)) * lN (wt r w0) = iL (-(((r w0 - 1 : Nat) : Int) * (wt r w0 : Int))) := by rw [lN_iL, iL_mul, Int.neg_mul]
      simp (disch := first | assumption | omega | decide | (simp only [List.length_cons, List.length_nil, Nat.reduceAdd, Nat.reduceLT]; done) | fail) only [r82_0, r82_0n, r82_1, r82_4, r82_5, r82_6, r82_8, r82_10, r82_13, r82_13n, r82_14, r82_15, r82_18, r82_19, r82_20, r82_24, r82_27, r82_29, r82_32, r82_32n, r82_33, r82_36, r82_37, r82_38, r82_39, r82_40, r82_41, r82_42, r82_44, r82_45, p_0 hS h, p_6 hS h, p_7 hS h, hx3 hO, hx5 hO, gL, gI, l1, r1, ovr0_in, q82_21 (f1 (Y a) (by omega)) (p_ci hS h), oGF_is, WPo_some, List.getElem?_cons_succ, List.getElem?_cons_zero, kil_n, kil_i, kil_a, kil_u, kil_l, Option.toList_some, Option.toList_none, List.cons_append, List.nil_append, List.set_cons_succ, List.set_cons_zero, addm1, Nat.reduceAdd, List.length_cons, List.length_nil, Nat.reduceLT, nI_clamp, nI_toInt, nI_leL, nI_Lle, nI_ltL, nI_Llt, nI_eqL, nI_Leq, nI_leE, nI_ltE, nI_eqE, nI_eqM, nI_add, nI_addL, nI_Ladd, nI_mulL, nI_Lmul, pk_mul, pk_sub, nI_subL, nI_Lsub, i2l_nI, Int.toNat_natCast, Nat.not_lt_zero, Nat.zero_le, ifT, ifF, not_true_eq_false, not_false_eq_true, if_true, if_false, or_self, and_self, true_and, and_true, or_true, true_or, false_or, or_false, false_and, and_false, ineg_l, e2]
  · by_cases par : a % 2 = 0
    · have pa2 : a - a / 2 * 2 = 0 := by omega
      by_cases k2 : k = 2
      · subst k2
        have e1 : lsI r a w0 2 X Y = ((X (a + 1) / wt r w0 % r w0 * wt r w0 : Nat) : Int) := by
          unfold lsI
          rw [if_neg (by decide), if_pos rfl, if_pos par]
        have md : X (a + 1) / wt r w0 % r w0 < r w0 := Nat.mod_lt _ (by omega)
        rw [e1, ← lN_iL]
        simp (disch := first | assumption | omega | decide | (simp only [List.length_cons, List.length_nil, Nat.reduceAdd, Nat.reduceLT]; done) | fail) only [r82_0, r82_0n, r82_1, r82_4, r82_5, r82_6, r82_8, r82_10, r82_13, r82_13n, r82_14, r82_15, r82_18, r82_19, r82_20, r82_24, r82_27, r82_29, r82_32, r82_32n, r82_33, r82_36, r82_37, r82_38, r82_39, r82_40, r82_41, r82_42, r82_44, r82_45, r82_46, r82_47, r82_49, r82_52, r82_53, r82_56, r82_57, r82_58, r82_59, r82_60, r82_63, r82_64, r82_67, r82_68, r82_69, r82_70, r82_71, r82_73, r82_75, r82_76, r82_79, r82_79n, r82_80, r82_82, r82_86, r82_87, r82_89, r82_90, r82_91, r82_93, r82_94, r82_95, r82_98, r82_99, r82_100, r82_101, r82_104, r82_105, r82_106, r82_109, r82_111, r82_114, r82_115, r82_117, r82_118, r82_121, r82_122, r82_125, r82_126, r82_128, r82_130, r82_133, r82_135, r82_138, r82_139, r82_48, p_0 hS h, p_7 hS h, hx3 hO, hx4 hO, gL, l1, ovr0_in, nI_divL, pa2, q82_83 (f1 (X (a + 1)) (by omega)) (p_ci hS h), oGF_is, WPo_some, List.getElem?_cons_succ, List.getElem?_cons_zero, kil_n, kil_i, kil_a, kil_u, kil_l, Option.toList_some, Option.toList_none, List.cons_append, List.nil_append, List.set_cons_succ, List.set_cons_zero, addm1, Nat.reduceAdd, List.length_cons, List.length_nil, Nat.reduceLT, nI_clamp, nI_toInt, nI_leL, nI_Lle, nI_ltL, nI_Llt, nI_eqL, nI_Leq, nI_leE, nI_ltE, nI_eqE, nI_eqM, nI_add, nI_addL, nI_Ladd, nI_mulL, nI_Lmul, pk_mul, pk_sub, nI_subL, nI_Lsub, i2l_nI, Int.toNat_natCast, Nat.not_lt_zero, Nat.zero_le, ifT, ifF, not_true_eq_false, not_false_eq_true, if_true, if_false, or_self, and_self, true_and, and_true, or_true, true_or, false_or, or_false, false_and, and_false, nI_l, lN_mul]
      · have k1 : k = 1 := by omega
        subst k1
        have e1 : lsI r a w0 1 X Y = if wt r w0 ≤ X a % wt r w0 + X (a + 1) % wt r w0 then (wt r w0 : Int) else 0 := by
          unfold lsI
          rw [if_neg (by decide), if_neg (by decide), if_pos par]
        have m1 : X a % wt r w0 < wt r w0 := Nat.mod_lt _ (by omega)
        have m2 : X (a + 1) % wt r w0 < wt r w0 := Nat.mod_lt _ (by omega)
        rw [e1]
        by_cases z : wt r w0 ≤ X a % wt r w0 + X (a + 1) % wt r w0
        · rw [if_pos z, ← lN_iL]
          have z' : ¬ lN (X a % wt r w0 + X (a + 1) % wt r w0) < lN (wt r w0) := by rw [lN_lt63 (by omega) (by omega)]; omega
          simp (disch := first | assumption | omega | decide | (simp only [List.length_cons, List.length_nil, Nat.reduceAdd, Nat.reduceLT]; done) | fail) only [r82_0, r82_0n, r82_1, r82_4, r82_5, r82_6, r82_8, r82_10, r82_13, r82_13n, r82_14, r82_15, r82_18, r82_19, r82_20, r82_24, r82_27, r82_29, r82_32, r82_32n, r82_33, r82_36, r82_37, r82_38, r82_39, r82_40, r82_41, r82_42, r82_44, r82_45, r82_46, r82_47, r82_49, r82_52, r82_53, r82_56, r82_57, r82_58, r82_59, r82_60, r82_63, r82_64, r82_67, r82_68, r82_69, r82_70, r82_71, r82_73, r82_75, r82_76, r82_79, r82_79n, r82_80, r82_82, r82_86, r82_87, r82_89, r82_90, r82_91, r82_93, r82_94, r82_95, r82_98, r82_99, r82_100, r82_101, r82_104, r82_105, r82_106, r82_109, r82_111, r82_114, r82_115, r82_117, r82_118, r82_121, r82_122, r82_125, r82_126, r82_128, r82_130, r82_133, r82_135, r82_138, r82_139, r82_48, r82_108, r82_113, p_0 hS h, p_7 hS h, hx3 hO, hx4 hO, gL, l1, ovr0_in, nI_divL, pa2, oGF_is, WPo_some, List.getElem?_cons_succ, List.getElem?_cons_zero, kil_n, kil_i, kil_a, kil_u, kil_l, Option.toList_some, Option.toList_none, List.cons_append, List.nil_append, List.set_cons_succ, List.set_cons_zero, addm1, Nat.reduceAdd, List.length_cons, List.length_nil, Nat.reduceLT, nI_clamp, nI_toInt, nI_leL, nI_Lle, nI_ltL, nI_Llt, nI_eqL, nI_Leq, nI_leE, nI_ltE, nI_eqE, nI_eqM, nI_add, nI_addL, nI_Ladd, nI_mulL, nI_Lmul, pk_mul, pk_sub, nI_subL, nI_Lsub, i2l_nI, Int.toNat_natCast, Nat.not_lt_zero, Nat.zero_le, ifT, ifF, not_true_eq_false, not_false_eq_true, if_true, if_false, or_self, and_self, true_and, and_true, or_true, true_or, false_or, or_false, false_and, and_false, lg_cmp_gt, lg_cmp_lt, wp2, lN_rem, lN_add, z', show ¬ (1 : Int32) = 0 by decide]
        · rw [if_neg z]
          have z' : lN (X a % wt r w0 + X (a + 1) % wt r w0) < lN (wt r w0) := by rw [lN_lt63 (by omega) (by omega)]; omega
          simp (disch := first | assumption | omega | decide | (simp only [List.length_cons, List.length_nil, Nat.reduceAdd, Nat.reduceLT]; done) | fail) only [r82_0, r82_0n, r82_1, r82_4, r82_5, r82_6, r82_8, r82_10, r82_13, r82_13n, r82_14, r82_15, r82_18, r82_19, r82_20, r82_24, r82_27, r82_29, r82_32, r82_32n, r82_33, r82_36, r82_37, r82_38, r82_39, r82_40, r82_41, r82_42, r82_44, r82_45, r82_46, r82_47, r82_49, r82_52, r82_53, r82_56, r82_57, r82_58, r82_59, r82_60, r82_63, r82_64, r82_67, r82_68, r82_69, r82_70, r82_71, r82_73, r82_75, r82_76, r82_79, r82_79n, r82_80, r82_82, r82_86, r82_87, r82_89, r82_90, r82_91, r82_93, r82_94, r82_95, r82_98, r82_99, r82_100, r82_101, r82_104, r82_105, r82_106, r82_109, r82_111, r82_114, r82_115, r82_117, r82_118, r82_121, r82_122, r82_125, r82_126, r82_128, r82_130, r82_133, r82_135, r82_138, r82_139, r82_48, r82_108, r82_113, p_0 hS h, p_7 hS h, hx3 hO, hx4 hO, gL, l1, ovr0_in, nI_divL, pa2, oGF_is, WPo_some, List.getElem?_cons_succ, List.getElem?_cons_zero, kil_n, kil_i, kil_a, kil_u, kil_l, Option.toList_some, Option.toList_none, List.cons_append, List.nil_append, List.set_cons_succ, List.set_cons_zero, addm1, Nat.reduceAdd, List.length_cons, List.length_nil, Nat.reduceLT, nI_clamp, nI_toInt, nI_leL, nI_Lle, nI_ltL, nI_Llt, nI_eqL, nI_Leq, nI_leE, nI_ltE, nI_eqE, nI_eqM, nI_add, nI_addL, nI_Ladd, nI_mulL, nI_Lmul, pk_mul, pk_sub, nI_subL, nI_Lsub, i2l_nI, Int.toNat_natCast, Nat.not_lt_zero, Nat.zero_le, ifT, ifF, not_true_eq_false, not_false_eq_true, if_true, if_false, or_self, and_self, true_and, and_true, or_true, true_or, false_or, or_false, false_and, and_false, lg_cmp_gt, lg_cmp_lt, wp2, lN_rem, lN_add, z']
          exact rfl
    · have pa2 : a - a / 2 * 2 = 1 := by omega
      by_cases k2 : k = 2
      · subst k2
        have e1 : lsI r a w0 2 X Y = ((Y (a + 1) / wt r w0 % r w0 * wt r w0 : Nat) : Int) := by
          unfold lsI
          rw [if_neg (by decide), if_pos rfl, if_neg par]
        have md : Y (a + 1) / wt r w0 % r w0 < r w0 := Nat.mod_lt _ (by omega)
        rw [e1, ← lN_iL]
        simp (disch := first | assumption | omega | decide | (simp only [List.length_cons, List.length_nil, Nat.reduceAdd, Nat.reduceLT]; done) | fail) only [r82_0, r82_0n, r82_1, r82_4, r82_5, r82_6, r82_8, r82_10, r82_13, r82_13n, r82_14, r82_15, r82_18, r82_19, r82_20, r82_24, r82_27, r82_29, r82_32, r82_32n, r82_33, r82_36, r82_37, r82_38, r82_39, r82_40, r82_41, r82_42, r82_44, r82_45, r82_46, r82_47, r82_49, r82_52, r82_53, r82_56, r82_57, r82_58, r82_59, r82_60, r82_63, r82_64, r82_67, r82_68, r82_69, r82_70, r82_71, r82_73, r82_75, r82_76, r82_79, r82_79n, r82_80, r82_82, r82_86, r82_87, r82_89, r82_90, r82_91, r82_93, r82_94, r82_95, r82_98, r82_99, r82_100, r82_101, r82_104, r82_105, r82_106, r82_109, r82_111, r82_114, r82_115, r82_117, r82_118, r82_121, r82_122, r82_125, r82_126, r82_128, r82_130, r82_133, r82_135, r82_138, r82_139, r82_48, p_0 hS h, p_7 hS h, hx3 hO, hx5 hO, gL, l1, ovr0_in, nI_divL, pa2, q82_83 (f1 (Y (a + 1)) (by omega)) (p_ci hS h), oGF_is, WPo_some, List.getElem?_cons_succ, List.getElem?_cons_zero, kil_n, kil_i, kil_a, kil_u, kil_l, Option.toList_some, Option.toList_none, List.cons_append, List.nil_append, List.set_cons_succ, List.set_cons_zero, addm1, Nat.reduceAdd, List.length_cons, List.length_nil, Nat.reduceLT, nI_clamp, nI_toInt, nI_leL, nI_Lle, nI_ltL, nI_Llt, nI_eqL, nI_Leq, nI_leE, nI_ltE, nI_eqE, nI_eqM, nI_add, nI_addL, nI_Ladd, nI_mulL, nI_Lmul, pk_mul, pk_sub, nI_subL, nI_Lsub, i2l_nI, Int.toNat_natCast, Nat.not_lt_zero, Nat.zero_le, ifT, ifF, not_true_eq_false, not_false_eq_true, if_true, if_false, or_self, and_self, true_and, and_true, or_true, true_or, false_or, or_false, false_and, and_false, nI_l, lN_mul]
      · have k1 : k = 1 := by omega
        subst k1
        have e1 : lsI r a w0 1 X Y = if wt r w0 ≤ X a % wt r w0 + Y (a + 1) % wt r w0 then (wt r w0 : Int) else 0 := by
          unfold lsI
          rw [if_neg (by decide), if_neg (by decide), if_neg par]
        have m1 : X a % wt r w0 < wt r w0 := Nat.mod_lt _ (by omega)
        have m2 : Y (a + 1) % wt r w0 < wt r w0 := Nat.mod_lt _ (by omega)
        rw [e1]
        by_cases z : wt r w0 ≤ X a % wt r w0 + Y (a + 1) % wt r w0
        · rw [if_pos z, ← lN_iL]
          have z' : ¬ lN (X a % wt r w0 + Y (a + 1) % wt r w0) < lN (wt r w0) := by rw [lN_lt63 (by omega) (by omega)]; omega
          simp (disch := first | assumption | omega | decide | (simp only [List.length_cons, List.length_nil, Nat.reduceAdd, Nat.reduceLT]; done) | fail) only [r82_0, r82_0n, r82_1, r82_4, r82_5, r82_6, r82_8, r82_10, r82_13, r82_13n, r82_14, r82_15, r82_18, r82_19, r82_20, r82_24, r82_27, r82_29, r82_32, r82_32n, r82_33, r82_36, r82_37, r82_38, r82_39, r82_40, r82_41, r82_42, r82_44, r82_45, r82_46, r82_47, r82_49, r82_52, r82_53, r82_56, r82_57, r82_58, r82_59, r82_60, r82_63, r82_64, r82_67, r82_68, r82_69, r82_70, r82_71, r82_73, r82_75, r82_76, r82_79, r82_79n, r82_80, r82_82, r82_86, r82_87, r82_89, r82_90, r82_91, r82_93, r82_94, r82_95, r82_98, r82_99, r82_100, r82_101, r82_104, r82_105, r82_106, r82_109, r82_111, r82_114, r82_115, r82_117, r82_118, r82_121, r82_122, r82_125, r82_126, r82_128, r82_130, r82_133, r82_135, r82_138, r82_139, r82_48, r82_108, r82_113, p_0 hS h, p_7 hS h, hx3 hO, hx4 hO, hx5 hO, gL, l1, ovr0_in, nI_divL, pa2, oGF_is, WPo_some, List.getElem?_cons_succ, List.getElem?_cons_zero, kil_n, kil_i, kil_a, kil_u, kil_l, Option.toList_some, Option.toList_none, List.cons_append, List.nil_append, List.set_cons_succ, List.set_cons_zero, addm1, Nat.reduceAdd, List.length_cons, List.length_nil, Nat.reduceLT, nI_clamp, nI_toInt, nI_leL, nI_Lle, nI_ltL, nI_Llt, nI_eqL, nI_Leq, nI_leE, nI_ltE, nI_eqE, nI_eqM, nI_add, nI_addL, nI_Ladd, nI_mulL, nI_Lmul, pk_mul, pk_sub, nI_subL, nI_Lsub, i2l_nI, Int.toNat_natCast, Nat.not_lt_zero, Nat.zero_le, ifT, ifF, not_true_eq_false, not_false_eq_true, if_true, if_false, or_self, and_self, true_and, and_true, or_true, true_or, false_or, or_false, false_and, and_false, lg_cmp_gt, lg_cmp_lt, wp2, lN_rem, lN_add, z', show ¬ (1 : Int32) = 0 by decide]
        · rw [if_neg z]
          have z' : lN (X a % wt r w0 + Y (a + 1) % wt r w0) < lN (wt r w0) := by rw [lN_lt63 (by omega) (by omega)]; omega
          simp (disch := first | assumption | omega | decide | (simp only [List.length_cons, List.length_nil, Nat.reduceAdd, Nat.reduceLT]; done) | fail) only [r82_0, r82_0n, r82_1, r82_4, r82_5, r82_6, r82_8, r82_10, r82_13, r82_13n, r82_14, r82_15, r82_18, r82_19, r82_20, r82_24, r82_27, r82_29, r82_32, r82_32n, r82_33, r82_36, r82_37, r82_38, r82_39, r82_40, r82_41, r82_42, r82_44, r82_45, r82_46, r82_47, r82_49, r82_52, r82_53, r82_56, r82_57, r82_58, r82_59, r82_60, r82_63, r82_64, r82_67, r82_68, r82_69, r82_70, r82_71, r82_73, r82_75, r82_76, r82_79, r82_79n, r82_80, r82_82, r82_86, r82_87, r82_89, r82_90, r82_91, r82_93, r82_94, r82_95, r82_98, r82_99, r82_100, r82_101, r82_104, r82_105, r82_106, r82_109, r82_111, r82_114, r82_115, r82_117, r82_118, r82_121, r82_122, r82_125, r82_126, r82_128, r82_130, r82_133, r82_135, r82_138, r82_139, r82_48, r82_108, r82_113, p_0 hS h, p_7 hS h, hx3 hO, hx4 hO, hx5 hO, gL, l1, ovr0_in, nI_divL, pa2, oGF_is, WPo_some, List.getElem?_cons_succ, List.getElem?_cons_zero, kil_n, kil_i, kil_a, kil_u, kil_l, Option.toList_some, Option.toList_none, List.cons_append, List.nil_append, List.set_cons_succ, List.set_cons_zero, addm1, Nat.reduceAdd, List.length_cons, List.length_nil, Nat.reduceLT, nI_clamp, nI_toInt, nI_leL, nI_Lle, nI_ltL, nI_Llt, nI_eqL, nI_Leq, nI_leE, nI_ltE, nI_eqE, nI_eqM, nI_add, nI_addL, nI_Ladd, nI_mulL, nI_Lmul, pk_mul, pk_sub, nI_subL, nI_Lsub, i2l_nI, Int.toNat_natCast, Nat.not_lt_zero, Nat.zero_le, ifT, ifF, not_true_eq_false, not_false_eq_true, if_true, if_false, or_self, and_self, true_and, and_true, or_true, true_or, false_or, or_false, false_and, and_false, lg_cmp_gt, lg_cmp_lt, wp2, lN_rem, lN_add, z']
          exact rfl
end LST

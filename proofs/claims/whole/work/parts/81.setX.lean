/-! Engines of the class: set -/
noncomputable def sV (n : Nat) (N : Nat → Int64) (x : Nat) : Int := if x < n then (bkD n N x).toInt else 0
section SUX
variable {E : aEnv} {c b ax wh : Nat} {ah : aHp} {A : Nat → Nat} {S : Nat → aE} {al : Int64} {ms tu : Int32} {ei : Nat → Nat → Int32} {el : Nat → Nat → Int64} {r : Nat → Nat}
theorem l_suW (h : XB E ah A b) (ha : ax ≤ 7) (hw : wh ≤ 12) {x U : Nat} (hx : x < ax) (hU : U < 2 ^ 63) (hr : ∀ w, w < wh → ei 6 w = nI (r w) ∧ 2 ≤ r w ∧ r w ≤ 12) (hl : ∀ w, w < wh → el 7 w = lN (wt r w)) {F : Nat → Int32} {l1 l2 : Option Value} {Q : Option Value → aHp → Prop} (K : WP E (c + 2) 43 111 [some (.ref (A b)), l1, l2, some (.int (nI x)), some (.long (lN U)), none, some (.int (nI wh))] [] (oh E ah A (eSt A S b ax wh al ms tu (iu ei 8 (ovr F (x * wh) wh (fun w => nI (U / wt r w % r w)))) el)) Q) :
    ∀ z w, w + z = wh → WP E (c + 2) 43 74 [some (.ref (A b)), l1, l2, some (.int (nI x)), some (.long (lN U)), none, some (.int (nI w))] [] (oh E ah A (eSt A S b ax wh al ms tu (iu ei 8 (ovr F (x * wh) w (fun w => nI (U / wt r w % r w)))) el)) Q
  | 0, w, hz => by
    rw [show w = wh by omega, r43_74]
    simp (disch := first | assumption | omega | decide | (simp only [List.length_cons, List.length_nil, Nat.reduceAdd, Nat.reduceLT]; done) | fail) only [r43_76, r43_77, r43_80, ge_0 h, oGF_is, WPo_some, List.getElem?_cons_succ, List.getElem?_cons_zero, kil_n, kil_i, kil_a, kil_u, kil_l, Option.toList_some, Option.toList_none, List.cons_append, List.nil_append, List.set_cons_succ, List.set_cons_zero, addm1, Nat.reduceAdd, List.length_cons, List.length_nil, Nat.reduceLT, nI_clamp, nI_toInt, nI_leL, nI_Lle, nI_ltL, nI_Llt, nI_eqL, nI_Leq, nI_leE, nI_ltE, nI_eqE, nI_eqM, nI_add, nI_addL, nI_Ladd, nI_mulL, nI_Lmul, pk_mul, pk_sub, nI_subL, nI_Lsub, i2l_nI, Int.toNat_natCast, Nat.not_lt_zero, Nat.zero_le, ifT, ifF, not_true_eq_false, not_false_eq_true, if_true, if_false, or_self, and_self, true_and, and_true, or_true, true_or, false_or, or_false, false_and, and_false]
    exact K
  | z + 1, w, hz => by
    have ih := l_suW h ha hw hx hU hr hl K z (w + 1) (by omega)
    have i1 := ix_lt hx (show w < wh by omega)
    have i2 := ix_84 ha hw
    have hr' : ∀ u, u < wh → (iu ei 8 (ovr F (x * wh) w (fun w => nI (U / wt r w % r w)))) 6 u = nI (r u) ∧ 2 ≤ r u ∧ r u ≤ 12 := fun u hu => by rw [iu_ne (by decide)]; exact hr u hu
    have m4 := upd_ovr (F := F) (lo := x * wh) (i := w) (h := fun w => nI (U / wt r w % r w)) (x := nI (U / wt r w % r w)) rfl
    rw [r43_74]
    simp (disch := first | assumption | omega | decide | (simp only [List.length_cons, List.length_nil, Nat.reduceAdd, Nat.reduceLT]; done) | fail) only [r43_76, r43_77, r43_80, r43_83, r43_84, r43_87, r43_88, r43_89, r43_92, r43_93, r43_95, r43_96, r43_97, r43_99, r43_104, r43_105, r43_108, q43_101 (c_figureOf h hw (show w < wh by omega) hU hr' hl) h.ci, ge_0 h, oGF_is, WPo_some, List.getElem?_cons_succ, List.getElem?_cons_zero, kil_n, kil_i, kil_a, kil_u, kil_l, Option.toList_some, Option.toList_none, List.cons_append, List.nil_append, List.set_cons_succ, List.set_cons_zero, addm1, Nat.reduceAdd, List.length_cons, List.length_nil, Nat.reduceLT, nI_clamp, nI_toInt, nI_leL, nI_Lle, nI_ltL, nI_Llt, nI_eqL, nI_Leq, nI_leE, nI_ltE, nI_eqE, nI_eqM, nI_add, nI_addL, nI_Ladd, nI_mulL, nI_Lmul, pk_mul, pk_sub, nI_subL, nI_Lsub, i2l_nI, Int.toNat_natCast, Nat.not_lt_zero, Nat.zero_le, ifT, ifF, not_true_eq_false, not_false_eq_true, if_true, if_false, or_self, and_self, true_and, and_true, or_true, true_or, false_or, or_false, false_and, and_false, pI, ge_8 h, se_8 h, iu_at, iu_iu, m4]
    exact ih
theorem l_suX (h : XB E ah A b) (ha : ax ≤ 7) (hw : wh ≤ 12) (hr : ∀ w, w < wh → ei 6 w = nI (r w) ∧ 2 ≤ r w ∧ r w ≤ 12) (hl : ∀ w, w < wh → el 7 w = lN (wt r w)) {V : Nat → Int} (hV : ∀ x, x < ax → (el 1 x).toInt = V x) {l1 : Option Value} {n2 : Int32} :
    ∀ z x F l4 l6, x + z = ax → (∀ y w, y < x → w < wh → F (y * wh + w) = nI (dgt (V y) r w)) → ∃ F', (∀ y w, y < ax → w < wh → F' (y * wh + w) = nI (dgt (V y) r w)) ∧ WP E (c + 2) 43 48 [some (.ref (A b)), l1, some (.int n2), some (.int (nI x)), l4, none, l6] [] (oh E ah A (eSt A S b ax wh (lN (wt r wh)) ms tu (iu ei 8 F) el)) (fun r1 x1 => r1 = none ∧ x1 = oh E ah A (eSt A S b ax wh (lN (wt r wh)) ms 0 (iu ei 8 F') el))
  | 0, x, F, l4, l6, hz, hF => by
    refine ⟨F, fun y w hy hw => hF y w (by omega) hw, ?_⟩
    rw [r43_48, show x = ax by omega]
    simp (disch := first | assumption | omega | decide | (simp only [List.length_cons, List.length_nil, Nat.reduceAdd, Nat.reduceLT]; done) | fail) only [r43_49, r43_50, r43_53, r43_117, r43_118, r43_119, r43_122, ge_0 h, oGF_is, WPo_some, List.getElem?_cons_succ, List.getElem?_cons_zero, kil_n, kil_i, kil_a, kil_u, kil_l, Option.toList_some, Option.toList_none, List.cons_append, List.nil_append, List.set_cons_succ, List.set_cons_zero, addm1, Nat.reduceAdd, List.length_cons, List.length_nil, Nat.reduceLT, nI_clamp, nI_toInt, nI_leL, nI_Lle, nI_ltL, nI_Llt, nI_eqL, nI_Leq, nI_leE, nI_ltE, nI_eqE, nI_eqM, nI_add, nI_addL, nI_Ladd, nI_mulL, nI_Lmul, pk_mul, pk_sub, nI_subL, nI_Lsub, i2l_nI, Int.toNat_natCast, Nat.not_lt_zero, Nat.zero_le, ifT, ifF, not_true_eq_false, not_false_eq_true, if_true, if_false, or_self, and_self, true_and, and_true, or_true, true_or, false_or, or_false, false_and, and_false, pf_2140, se_0 h]
  | z + 1, x, F, l4, l6, hz, hF => by
    have p1 := wt_63 hw (fun w z => (hr w z).2) (Nat.le_refl wh)
    have hx : x < ax := by omega
    have e0 : (lN (wt r wh)).toInt = (wt r wh : Int) := lN_toInt63 (by omega)
    have hm0 := Int.emod_nonneg (V x) (show ((wt r wh : Nat) : Int) ≠ 0 by omega)
    have hm1 := Int.emod_lt_of_pos (V x) (show (0 : Int) < ((wt r wh : Nat) : Int) by omega)
    obtain ⟨U, hU⟩ : ∃ U, U = (V x % (wt r wh : Int)).toNat := ⟨_, rfl⟩
    have eU : iL (V x % (wt r wh : Int)) = lN U := by
      rw [lN_iL, hU, Int.toNat_of_nonneg hm0]
    have fm := c_floorMod (E := E) (c := c + 1) (ah := oh E ah A (eSt A S b ax wh (lN (wt r wh)) ms tu (iu ei 8 F) el)) (x := el 1 x) (y := lN (wt r wh)) (by rw [e0]; omega)
    rw [hV x hx, e0, eU] at fm
    obtain ⟨F', g1, g2⟩ := l_suX h ha hw hr hl hV (l1 := l1) (n2 := n2) z (x + 1) (ovr F (x * wh) wh (fun w => nI (U / wt r w % r w))) (some (.long (lN U))) (some (.int (nI wh))) (by omega) (fun y w hy hw' => by
      by_cases e : y = x
      · subst e
        rw [ovr_in hw', hU, dgt_mod hw' (fun w z => (hr w z).2)]
      · have : (y + 1) * wh ≤ x * wh := Nat.mul_le_mul_right _ (by omega)
        rw [Nat.succ_mul] at this
        rw [ovr_out (by omega)]
        exact hF y w (by omega) hw')
    have hr' : ∀ u, u < wh → (iu ei 8 F) 6 u = nI (r u) ∧ 2 ≤ r u ∧ r u ≤ 12 := fun u hu => by rw [iu_ne (by decide)]; exact hr u hu
    have l := l_suW (c := c) (S := S) (al := lN (wt r wh)) (ms := ms) (tu := tu) (F := F) h ha hw hx (show U < 2 ^ 63 by omega) hr hl (l1 := l1) (l2 := some (.int n2)) (Q := fun r1 x1 => r1 = none ∧ x1 = oh E ah A (eSt A S b ax wh (lN (wt r wh)) ms 0 (iu ei 8 F') el)) (by
      simp (disch := first | assumption | omega | decide | (simp only [List.length_cons, List.length_nil, Nat.reduceAdd, Nat.reduceLT]; done) | fail) only [r43_111, r43_114, oGF_is, WPo_some, List.getElem?_cons_succ, List.getElem?_cons_zero, kil_n, kil_i, kil_a, kil_u, kil_l, Option.toList_some, Option.toList_none, List.cons_append, List.nil_append, List.set_cons_succ, List.set_cons_zero, addm1, Nat.reduceAdd, List.length_cons, List.length_nil, Nat.reduceLT, nI_clamp, nI_toInt, nI_leL, nI_Lle, nI_ltL, nI_Llt, nI_eqL, nI_Leq, nI_leE, nI_ltE, nI_eqE, nI_eqM, nI_add, nI_addL, nI_Ladd, nI_mulL, nI_Lmul, pk_mul, pk_sub, nI_subL, nI_Lsub, i2l_nI, Int.toNat_natCast, Nat.not_lt_zero, Nat.zero_le, ifT, ifF, not_true_eq_false, not_false_eq_true, if_true, if_false, or_self, and_self, true_and, and_true, or_true, true_or, false_or, or_false, false_and, and_false]
      exact g2) wh 0 (by omega)
    rw [ovr_0] at l
    refine ⟨F', g1, ?_⟩
    rw [r43_48]
    simp (disch := first | assumption | omega | decide | (simp only [List.length_cons, List.length_nil, Nat.reduceAdd, Nat.reduceLT]; done) | fail) only [r43_49, r43_50, r43_53, r43_56, r43_57, r43_60, r43_61, r43_62, r43_63, r43_69, r43_71, r43_72, q43_66 fm, ge_0 h, ge_1 h, oGF_is, WPo_some, List.getElem?_cons_succ, List.getElem?_cons_zero, kil_n, kil_i, kil_a, kil_u, kil_l, Option.toList_some, Option.toList_none, List.cons_append, List.nil_append, List.set_cons_succ, List.set_cons_zero, addm1, Nat.reduceAdd, List.length_cons, List.length_nil, Nat.reduceLT, nI_clamp, nI_toInt, nI_leL, nI_Lle, nI_ltL, nI_Llt, nI_eqL, nI_Leq, nI_leE, nI_ltE, nI_eqE, nI_eqM, nI_add, nI_addL, nI_Ladd, nI_mulL, nI_Lmul, pk_mul, pk_sub, nI_subL, nI_Lsub, i2l_nI, Int.toNat_natCast, Nat.not_lt_zero, Nat.zero_le, ifT, ifF, not_true_eq_false, not_false_eq_true, if_true, if_false, or_self, and_self, true_and, and_true, or_true, true_or, false_or, or_false, false_and, and_false, gL]
    exact l
theorem l_suC (h : XB E ah A b) (hO : XO E ah A) (hb : 81 ≤ b) {sr : Nat → Int32} {mn : Nat → Nat} {tn : Nat → Nat → Int64} (ht : trS A S sr mn tn) {j n : Nat} (hj : j < 4) (hn : n ≤ 7) (hm : n ≤ mn j) {N0 : Nat → Int64} {Q : Option Value → aHp → Prop} (K : WP E (c + 2) 43 38 [some (.ref (A b)), some (.ref (A (73 + 2 * j))), some (.int (nI n)), some (.int (nI n)), none, none, none] [] (oh E ah A (eSt A S b ax wh al ms tu ei (lu el 1 (ovr N0 0 n (tn j))))) Q) :
    ∀ z i, i + z = n → WP E (c + 2) 43 10 [some (.ref (A b)), some (.ref (A (73 + 2 * j))), some (.int (nI n)), some (.int (nI i)), none, none, none] [] (oh E ah A (eSt A S b ax wh al ms tu ei (lu el 1 (ovr N0 0 i (tn j))))) Q
  | 0, i, hz => by
    rw [show i = n by omega, r43_10]
    simp (disch := first | assumption | omega | decide | (simp only [List.length_cons, List.length_nil, Nat.reduceAdd, Nat.reduceLT]; done) | fail) only [r43_11, r43_12, oGF_is, WPo_some, List.getElem?_cons_succ, List.getElem?_cons_zero, kil_n, kil_i, kil_a, kil_u, kil_l, Option.toList_some, Option.toList_none, List.cons_append, List.nil_append, List.set_cons_succ, List.set_cons_zero, addm1, Nat.reduceAdd, List.length_cons, List.length_nil, Nat.reduceLT, nI_clamp, nI_toInt, nI_leL, nI_Lle, nI_ltL, nI_Llt, nI_eqL, nI_Leq, nI_leE, nI_ltE, nI_eqE, nI_eqM, nI_add, nI_addL, nI_Ladd, nI_mulL, nI_Lmul, pk_mul, pk_sub, nI_subL, nI_Lsub, i2l_nI, Int.toNat_natCast, Nat.not_lt_zero, Nat.zero_le, ifT, ifF, not_true_eq_false, not_false_eq_true, if_true, if_false, or_self, and_self, true_and, and_true, or_true, true_or, false_or, or_false, false_and, and_false]
    exact K
  | z + 1, i, hz => by
    have ih := l_suC h hO hb ht hj hn hm K z (i + 1) (by omega)
    have ht1 : trS A (eSt A S b ax wh al ms tu ei (lu el 1 (ovr N0 0 i (tn j)))) sr mn tn := ht.fr (fun q hq => eSt_o (by omega))
    have hT1 := ht1.TR hO hj
    have m2 := vupd_ovr (F := N0) (i := i) (h := tn j) (x := tn j i) rfl
    rw [r43_10]
    simp (disch := first | assumption | omega | decide | (simp only [List.length_cons, List.length_nil, Nat.reduceAdd, Nat.reduceLT]; done) | fail) only [r43_11, r43_12, r43_15, r43_16, r43_18, r43_21, r43_22, r43_25, r43_26, r43_26n, r43_27, r43_31, r43_32, r43_35, q43_28 (c_at hT1 (show i < mn j by omega)) hT1.ci, ge_0 h, ge_1 h, se_1 h, oGF_is, WPo_some, List.getElem?_cons_succ, List.getElem?_cons_zero, kil_n, kil_i, kil_a, kil_u, kil_l, Option.toList_some, Option.toList_none, List.cons_append, List.nil_append, List.set_cons_succ, List.set_cons_zero, addm1, Nat.reduceAdd, List.length_cons, List.length_nil, Nat.reduceLT, nI_clamp, nI_toInt, nI_leL, nI_Lle, nI_ltL, nI_Llt, nI_eqL, nI_Leq, nI_leE, nI_ltE, nI_eqE, nI_eqM, nI_add, nI_addL, nI_Ladd, nI_mulL, nI_Lmul, pk_mul, pk_sub, nI_subL, nI_Lsub, i2l_nI, Int.toNat_natCast, Nat.not_lt_zero, Nat.zero_le, ifT, ifF, not_true_eq_false, not_false_eq_true, if_true, if_false, or_self, and_self, true_and, and_true, or_true, true_or, false_or, or_false, false_and, and_false, pL, lu_at, lu_lu, m2]
    exact ih
theorem c_setUp (h : XB E ah A b) (hO : XO E ah A) (hb : 81 ≤ b) {sr : Nat → Int32} {mn : Nat → Nat} {tn : Nat → Nat → Int64} (ht : trS A S sr mn tn) {j n : Nat} (hj : j < 4) (hn1 : 1 ≤ n) (hna : n ≤ ax) (hm : n ≤ mn j) {fg mq : Nat → Nat → Nat} {k : Nat} (hg : egR ax wh r fg mq k ei el) : ∃ ei' el', egR ax wh r (fun x w => dgt (sV n (tn j) x) r w) mq k ei' el' ∧ EV E (c + 3) 43 [.ref (A b), .ref (A (73 + 2 * j)), .int (nI n)] (oh E ah A (eSt A S b ax wh (lN (wt r wh)) ms tu ei el)) none (oh E ah A (eSt A S b ax wh (lN (wt r wh)) ms 0 ei' el')) := by
  obtain ⟨g0, g1, g2, g3, g4, g5⟩ := hg
  have hl : ∀ w, w < wh → (lu el 1 (bkD n (ovr (fillF (el 1) 0 7) 0 n (tn j)))) 7 w = lN (wt r w) := fun w hw => by rw [lu_ne (by decide)]; exact g2 w hw
  have hV : ∀ x, x < ax → ((lu el 1 (bkD n (ovr (fillF (el 1) 0 7) 0 n (tn j)))) 1 x).toInt = sV n (tn j) x := fun x hx => by
    rw [lu_at]
    unfold sV
    by_cases z : x < n
    · rw [if_pos z, bkD_eq hn1 (D' := tn j) (fun i hi => ovr0_in hi) x z]
    · rw [if_neg z, bkD_out hn1 x (by omega), ovr_out (by omega)]
      unfold fillF
      rw [if_pos (by omega)]
      rfl
  obtain ⟨F', f1, f2⟩ := l_suX (c := c + 1) (S := S) (ms := ms) (tu := tu) (ei := ei) h g0.2.1 g0.2.2.2 g1 hl hV (l1 := some (.ref (A (73 + 2 * j)))) (n2 := nI n) ax 0 (ei 8) none none (by omega) (fun y w hy => absurd hy (by omega))
  refine ⟨iu ei 8 F', _, ⟨g0, ?_, hl, ?_, ?_, mqR_iu g5 (by decide)⟩, e43 ?_⟩
  · intro w hw
    rw [iu_ne (by decide)]
    exact g1 w hw
  · intro x w hx hw
    rw [iu_at]
    exact ⟨f1 x w hx hw, dgt_lt (by have := (g1 w hw).2; omega)⟩
  · intro x w hx hw
    rw [iu_ne (by decide)]
    exact g4 x w hx hw
  · rw [iu_self] at f2
    have kf := c_fill (E := E) (c := c + 2) (x := 0) (n := 7) (by decide) (ge_1 (S := S) (ax := ax) (wh := wh) (al := lN (wt r wh)) (ms := ms) (tu := tu) (ei := ei) (el := el) h)
    rw [se_1 h] at kf
    have kt := c_toAxes (c := c) (n := n) (L := 7) (by omega) (by decide) hn1 (ge_1 (S := S) (ax := ax) (wh := wh) (al := lN (wt r wh)) (ms := ms) (tu := tu) (ei := ei) (el := lu el 1 (ovr (fillF (el 1) 0 7) 0 n (tn j))) h)
    rw [se_1 h, lu_lu, lu_at] at kt
    have lc := l_suC (c := c + 1) (S := S) (al := lN (wt r wh)) (ms := ms) (tu := tu) (ei := ei) (el := el) (ax := ax) (wh := wh) h hO hb ht hj (show n ≤ 7 by omega) hm (N0 := fillF (el 1) 0 7) (Q := fun r1 x1 => r1 = none ∧ x1 = oh E ah A (eSt A S b ax wh (lN (wt r wh)) ms 0 (iu ei 8 F') (lu el 1 (bkD n (ovr (fillF (el 1) 0 7) 0 n (tn j)))))) (by
      simp (disch := first | assumption | omega | decide | (simp only [List.length_cons, List.length_nil, Nat.reduceAdd, Nat.reduceLT]; done) | fail) only [r43_38, r43_39, r43_42, q43_43 kt, ge_0 h, oGF_is, WPo_some, List.getElem?_cons_succ, List.getElem?_cons_zero, kil_n, kil_i, kil_a, kil_u, kil_l, Option.toList_some, Option.toList_none, List.cons_append, List.nil_append, List.set_cons_succ, List.set_cons_zero, addm1, Nat.reduceAdd, List.length_cons, List.length_nil, Nat.reduceLT, r43_46, r43_47]
      exact f2) n 0 (by omega)
    rw [ovr_0] at lc
    simp (disch := first | assumption | omega | decide | (simp only [List.length_cons, List.length_nil, Nat.reduceAdd, Nat.reduceLT]; done) | fail) only [r43_0, r43_1, r43_4, q43_5 kf, ge_0 h, oGF_is, WPo_some, List.getElem?_cons_succ, List.getElem?_cons_zero, kil_n, kil_i, kil_a, kil_u, kil_l, Option.toList_some, Option.toList_none, List.cons_append, List.nil_append, List.set_cons_succ, List.set_cons_zero, addm1, Nat.reduceAdd, List.length_cons, List.length_nil, Nat.reduceLT, r43_8, r43_9]
    exact lc
end SUX

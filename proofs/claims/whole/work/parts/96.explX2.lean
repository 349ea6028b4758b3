/-! The class' explanation: what it shows without a mishap -/
noncomputable def fwI (ok : Nat → Prop) (i : Nat) (x : Int32) : Prop := ((∀ q, q < i → ok q) ∧ x = -1) ∨ ∃ f, f < i ∧ (∀ q, q < f → ok q) ∧ ¬ ok f ∧ x = nI f
theorem fwI_un {ok : Nat → Prop} {i : Nat} {x y : Int32} (h : fwI ok i x) (h' : fwI ok i y) : x = y := by
  rcases h with ⟨h1, h2⟩ | ⟨f, f1, f2, f3, f4⟩
  · rcases h' with ⟨g1, g2⟩ | ⟨g, g1, g2, g3, g4⟩
    · rw [h2, g2]
    · exact absurd (h1 g g1) g3
  · rcases h' with ⟨g1, g2⟩ | ⟨g, g1, g2, g3, g4⟩
    · exact absurd (g1 f f1) f3
    · have : f = g := by
        rcases Nat.lt_trichotomy f g with z | z | z
        · exact absurd (g2 f z) f3
        · exact z
        · exact absurd (f2 g z) g3
      rw [f4, g4, this]
theorem fwI_ex (ok : Nat → Prop) (i : Nat) : ∃ x, fwI ok i x := by
  rcases fst1 (fun q => ¬ ok q) i with h | ⟨q, h1, h2, h3⟩
  · exact ⟨-1, Or.inl ⟨fun q hq => Classical.not_not.mp (h q hq), rfl⟩⟩
  · exact ⟨nI q, Or.inr ⟨q, h1, fun p hp => Classical.not_not.mp (h3 p hp), h2, rfl⟩⟩
section SWM
variable {E : aEnv} {c b ax wh : Nat} {ah : aHp} {A : Nat → Nat} {S : Nat → aE} {ms tu : Int32} {ei : Nat → Nat → Int32} {el : Nat → Nat → Int64} {r : Nat → Nat} {fg mq : Nat → Nat → Nat} {n : Nat} {sr : Nat → Int32} {mn : Nat → Nat} {tn : Nat → Nat → Int64}
theorem l_swm (hO : XO E ah A) (h : XB E ah A b) (hb : 81 ≤ b) (hg : egR ax wh r fg mq n ei el) (hq : ∀ q, q < 11 → S (b + q) = eC A b ax wh (lN (wt r wh)) ms tu ei el q) (ht : trS A S sr mn tn) {j R : Nat} (hj : j < 4) (hR : R ≤ mn j) (hR60 : R ≤ 60) {tl t a w k xR : Int32} {bf as D SH : Nat → Int64} (hx : fwI (okN ax (wt r wh) (NN r wh fg) (sr j) (tn j)) R xR) : ∀ z i x, i + z = R → fwI (okN ax (wt r wh) (NN r wh fg) (sr j) (tn j)) i x → WP E (c + 3) 77 14 [some (.ref (A 3)), some (.ref (A b)), some (.ref (A (73 + 2 * j))), some (.int (nI R)), some (.int x), some (.int (nI i))] [] (oh E ah A (exS A S tl t a w k bf (ovr D 0 ax (fun y => lN (rX ax (wt r wh) i (NN r wh fg) y))) as (ovr SH 0 i (fun y => lN (rX ax (wt r wh) (y + 1) (NN r wh fg) 0))))) (fun r1 x1 => r1 = some (.int xR) ∧ x1 = oh E ah A (exS A S tl t a w k bf (ovr D 0 ax (fun y => lN (rX ax (wt r wh) R (NN r wh fg) y))) as (ovr SH 0 R (fun y => lN (rX ax (wt r wh) (y + 1) (NN r wh fg) 0)))))
  | 0, i, x, hz, hi => by
    rw [show i = R by omega] at hi ⊢
    rw [fwI_un hi hx, r77_14]
    simp (disch := first | assumption | omega | decide | (simp only [List.length_cons, List.length_nil, Nat.reduceAdd, Nat.reduceLT]; done) | fail) only [r77_16, r77_17, r77_85, r77_87, oGF_is, WPo_some, List.getElem?_cons_succ, List.getElem?_cons_zero, kil_n, kil_i, kil_a, kil_u, kil_l, Option.toList_some, Option.toList_none, List.cons_append, List.nil_append, List.set_cons_succ, List.set_cons_zero, addm1, Nat.reduceAdd, List.length_cons, List.length_nil, Nat.reduceLT, nI_clamp, nI_toInt, nI_leL, nI_Lle, nI_ltL, nI_Llt, nI_eqL, nI_Leq, nI_leE, nI_ltE, nI_eqE, nI_eqM, nI_add, nI_addL, nI_Ladd, nI_mulL, nI_Lmul, pk_mul, pk_sub, nI_subL, nI_Lsub, i2l_nI, Int.toNat_natCast, Nat.not_lt_zero, Nat.zero_le, ifT, ifF, not_true_eq_false, not_false_eq_true, if_true, if_false, or_self, and_self, true_and, and_true, or_true, true_or, false_or, or_false, false_and, and_false]
  | z + 1, i, x, hz, hi => by
    have hd : dgL ax wh r fg := fun x w hx hw => (hg.2.2.2.1 x w hx hw).2
    have hW := wt_63 hg.1.2.2.2 (fun w hw => (hg.2.1 w hw).2) (Nat.le_refl wh)
    have hB := rX_b (ax := ax) hW.1 (NN_b hd)
    have key : ∀ x', fwI (okN ax (wt r wh) (NN r wh fg) (sr j) (tn j)) (i + 1) x' → _ := fun x' hx' => l_swm hO h hb hg hq ht hj hR hR60 (tl := tl) (t := t) (a := a) (w := w) (k := k) (bf := bf) (as := as) (D := D) (SH := SH) hx z (i + 1) x' (by omega) hx'
    have g0 := hg.1
    have p0 := fun tl t a w k bf af as sh => p_0 (S := exS A S tl t a w k bf af as sh) (eSt_id (fun q hq' => by rw [exS_o (by omega)]; exact hq q hq')) h
    have kt := c_turnAxes (E := E) (c := c) (p := A 5) g0.2.1 hW.2 hW.1 (hB i) (hx5 (S := S) (tl := tl) (t := t) (a := a) (w := w) (k := k) (bf := bf) (as := as) (sh := ovr SH 0 i (fun y => lN (rX ax (wt r wh) (y + 1) (NN r wh fg) 0))) (af := ovr D 0 ax (fun y => lN (rX ax (wt r wh) i (NN r wh fg) y))) hO)
    rw [sx5 hO] at kt
    have m2 := vupd_ovr (F := SH) (i := i) (h := fun y => lN (rX ax (wt r wh) (y + 1) (NN r wh fg) 0)) (x := lN (trX ax (wt r wh) (rX ax (wt r wh) i (NN r wh fg)) 0)) rfl
    have ht1 : ∀ tl t a w k bf af as sh, trS A (exS A S tl t a w k bf af as sh) sr mn tn := fun tl t a w k bf af as sh => ht.fr (fun q hq => exS_o (by omega))
    have hT1 := fun tl t a w k bf af as sh => (ht1 tl t a w k bf af as sh).TR hO hj
    have z0 : 0 < ax := by omega
    rw [r77_14]
    rcases hi with ⟨hi1, hi2⟩ | ⟨f, f1, f2, f3, f4⟩
    · subst hi2
      by_cases ok : okN ax (wt r wh) (NN r wh fg) (sr j) (tn j) i
      · have ih := key (-1) (Or.inl ⟨fun q hq => by
          by_cases y : q = i
          · rw [y]; exact ok
          · exact hi1 q (by omega), rfl⟩)
        have ok' : (cutF (sr j) (lN (rX ax (wt r wh) (i + 1) (NN r wh fg) 0)) = tn j i) = True := eq_true ok
        simp (disch := first | assumption | omega | decide | (simp only [List.length_cons, List.length_nil, Nat.reduceAdd, Nat.reduceLT]; done) | fail) only [r77_16, r77_17, r77_20, r77_21, r77_24, r77_24n, r77_25, r77_28, r77_28n, r77_29, r77_35, r77_36, r77_39, r77_41, r77_42, r77_45, r77_46, r77_47, r77_48, r77_50, r77_51, r77_54, r77_54n, r77_55, r77_56, r77_59, r77_61, r77_65, r77_65n, r77_66, r77_71, r77_72, r77_75, r77_77, r77_79, r77_82, q77_32 kt, q77_62 (c_cut (hT1 _ _ _ _ _ _ _ _ _)) (hT1 _ _ _ _ _ _ _ _ _).ci, q77_68 (c_at (hT1 _ _ _ _ _ _ _ _ _) (show i < mn j by omega)) (hT1 _ _ _ _ _ _ _ _ _).ci, p0, hx3 hO, hx5 hO, hx7 hO, sx7 hO, gL, pL, oGF_is, WPo_some, List.getElem?_cons_succ, List.getElem?_cons_zero, kil_n, kil_i, kil_a, kil_u, kil_l, Option.toList_some, Option.toList_none, List.cons_append, List.nil_append, List.set_cons_succ, List.set_cons_zero, addm1, Nat.reduceAdd, List.length_cons, List.length_nil, Nat.reduceLT, nI_clamp, nI_toInt, nI_leL, nI_Lle, nI_ltL, nI_Llt, nI_eqL, nI_Leq, nI_leE, nI_ltE, nI_eqE, nI_eqM, nI_add, nI_addL, nI_Ladd, nI_mulL, nI_Lmul, pk_mul, pk_sub, nI_subL, nI_Lsub, i2l_nI, Int.toNat_natCast, Nat.not_lt_zero, Nat.zero_le, ifT, ifF, not_true_eq_false, not_false_eq_true, if_true, if_false, or_self, and_self, true_and, and_true, or_true, true_or, false_or, or_false, false_and, and_false, m2, ovr0_in, lg_cmp_eq, ok', show (0 : Int32).toNatClampNeg = 0 by decide]
        exact ih
      · have ih := key (nI i) (Or.inr ⟨i, by omega, hi1, ok, rfl⟩)
        have ok' : (cutF (sr j) (lN (rX ax (wt r wh) (i + 1) (NN r wh fg) 0)) = tn j i) = False := eq_false ok
        simp (disch := first | assumption | omega | decide | (simp only [List.length_cons, List.length_nil, Nat.reduceAdd, Nat.reduceLT]; done) | fail) only [r77_16, r77_17, r77_20, r77_21, r77_24, r77_24n, r77_25, r77_28, r77_28n, r77_29, r77_35, r77_36, r77_39, r77_41, r77_42, r77_45, r77_46, r77_47, r77_48, r77_50, r77_51, r77_54, r77_54n, r77_55, r77_56, r77_59, r77_61, r77_65, r77_65n, r77_66, r77_71, r77_72, r77_75, r77_77, r77_79, r77_82, q77_32 kt, q77_62 (c_cut (hT1 _ _ _ _ _ _ _ _ _)) (hT1 _ _ _ _ _ _ _ _ _).ci, q77_68 (c_at (hT1 _ _ _ _ _ _ _ _ _) (show i < mn j by omega)) (hT1 _ _ _ _ _ _ _ _ _).ci, p0, hx3 hO, hx5 hO, hx7 hO, sx7 hO, gL, pL, oGF_is, WPo_some, List.getElem?_cons_succ, List.getElem?_cons_zero, kil_n, kil_i, kil_a, kil_u, kil_l, Option.toList_some, Option.toList_none, List.cons_append, List.nil_append, List.set_cons_succ, List.set_cons_zero, addm1, Nat.reduceAdd, List.length_cons, List.length_nil, Nat.reduceLT, nI_clamp, nI_toInt, nI_leL, nI_Lle, nI_ltL, nI_Llt, nI_eqL, nI_Leq, nI_leE, nI_ltE, nI_eqE, nI_eqM, nI_add, nI_addL, nI_Ladd, nI_mulL, nI_Lmul, pk_mul, pk_sub, nI_subL, nI_Lsub, i2l_nI, Int.toNat_natCast, Nat.not_lt_zero, Nat.zero_le, ifT, ifF, not_true_eq_false, not_false_eq_true, if_true, if_false, or_self, and_self, true_and, and_true, or_true, true_or, false_or, or_false, false_and, and_false, m2, ovr0_in, lg_cmp_eq, ok', show (0 : Int32).toNatClampNeg = 0 by decide]
        exact ih
    · have ih := key x (Or.inr ⟨f, by omega, f2, f3, f4⟩)
      have hx1 : ¬ nI f = -1 := by rw [nI_eqM (by omega)]; exact not_false
      subst f4
      simp (disch := first | assumption | omega | decide | (simp only [List.length_cons, List.length_nil, Nat.reduceAdd, Nat.reduceLT]; done) | fail) only [r77_16, r77_17, r77_20, r77_21, r77_24, r77_24n, r77_25, r77_28, r77_28n, r77_29, r77_35, r77_36, r77_39, r77_41, r77_42, r77_45, r77_46, r77_47, r77_48, r77_50, r77_51, r77_54, r77_54n, r77_55, r77_56, r77_59, r77_61, r77_65, r77_65n, r77_66, r77_71, r77_72, r77_75, r77_77, r77_79, r77_82, q77_32 kt, p0, hx3 hO, hx5 hO, hx7 hO, sx7 hO, gL, pL, oGF_is, WPo_some, List.getElem?_cons_succ, List.getElem?_cons_zero, kil_n, kil_i, kil_a, kil_u, kil_l, Option.toList_some, Option.toList_none, List.cons_append, List.nil_append, List.set_cons_succ, List.set_cons_zero, addm1, Nat.reduceAdd, List.length_cons, List.length_nil, Nat.reduceLT, nI_clamp, nI_toInt, nI_leL, nI_Lle, nI_ltL, nI_Llt, nI_eqL, nI_Leq, nI_leE, nI_ltE, nI_eqE, nI_eqM, nI_add, nI_addL, nI_Ladd, nI_mulL, nI_Lmul, pk_mul, pk_sub, nI_subL, nI_Lsub, i2l_nI, Int.toNat_natCast, Nat.not_lt_zero, Nat.zero_le, ifT, ifF, not_true_eq_false, not_false_eq_true, if_true, if_false, or_self, and_self, true_and, and_true, or_true, true_or, false_or, or_false, false_and, and_false, m2, ovr0_in, hx1, show (0 : Int32).toNatClampNeg = 0 by decide]
      exact ih
theorem c_swm (hO : XO E ah A) (h : XB E ah A b) (hb : 81 ≤ b) (hg : egR ax wh r fg mq n ei el) (hq : ∀ q, q < 11 → S (b + q) = eC A b ax wh (lN (wt r wh)) ms tu ei el q) (ht : trS A S sr mn tn) {j R : Nat} (hj : j < 4) (hR : R ≤ mn j) (hR60 : R ≤ 60) {tl t a w k xR : Int32} {bf as D SH : Nat → Int64} (hx : fwI (okN ax (wt r wh) (NN r wh fg) (sr j) (tn j)) R xR) : EV E (c + 3) 77 [.ref (A 3), .ref (A b), .ref (A (73 + 2 * j)), .int (nI R)] (oh E ah A (exS A S tl t a w k bf D as SH)) (some (.int xR)) (oh E ah A (exS A S tl t a w k bf (ovr D 0 ax (fun y => lN (rX ax (wt r wh) R (NN r wh fg) y))) as (ovr SH 0 R (fun y => lN (rX ax (wt r wh) (y + 1) (NN r wh fg) 0))))) := by
  refine e77 ?_
  have l := l_swm (c := c) hO h hb hg hq ht hj hR hR60 (tl := tl) (t := t) (a := a) (w := w) (k := k) (bf := bf) (as := as) (D := D) (SH := SH) hx R 0 (-1) (by omega) (Or.inl ⟨fun q hq => absurd hq (by omega), rfl⟩)
  rw [ovr_0] at l
  have kc := c_copyN (c := c) hO h hb hg hq (tl := tl) (t := t) (a := a) (w := w) (k := k) (bf := bf) (as := as) (sh := SH) (D := D)
  have hS := eSt_id (S := exS A S tl t a w k bf D as SH) (A := A) (b := b) (ax := ax) (wh := wh) (al := lN (wt r wh)) (ms := ms) (tu := tu) (ei := ei) (el := el) (fun q hq' => by rw [exS_o (by omega)]; exact hq q hq')
  simp (disch := first | assumption | omega | decide | (simp only [List.length_cons, List.length_nil, Nat.reduceAdd, Nat.reduceLT]; done) | fail) only [r77_0, r77_1, r77_3, r77_3n, r77_4, r77_5, hx3 hO, oGF_is, WPo_some, List.getElem?_cons_succ, List.getElem?_cons_zero, kil_n, kil_i, kil_a, kil_u, kil_l, Option.toList_some, Option.toList_none, List.cons_append, List.nil_append, List.set_cons_succ, List.set_cons_zero, addm1, Nat.reduceAdd, List.length_cons, List.length_nil, Nat.reduceLT, q77_8 kc (p_ci hS h), r77_11, r77_12]
  exact l
end SWM

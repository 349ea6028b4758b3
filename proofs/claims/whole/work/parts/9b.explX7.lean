/-! The class' explanation: seek -/
section SK7
variable {E : aEnv} {c b ax wh : Nat} {ah : aHp} {A : Nat → Nat} {S : Nat → aE} {ms tu : Int32} {ei : Nat → Nat → Int32} {el : Nat → Nat → Int64} {r : Nat → Nat} {fg mq : Nat → Nat → Nat} {n : Nat} {sr : Nat → Int32} {mn : Nat → Nat} {tn : Nat → Nat → Int64}
theorem x76_61 (hO : XO E ah A) {ls : aLs} {tl t a w k : Int32} {bf af as sh : Nat → Int64} {Q : Option Value → aHp → Prop} : WP E (c + 1) 76 61 ls [.int 7, .int 0, .ref (A 4), .int 0, .ref (A 5)] (oh E ah A (exS A S tl t a w k bf af as sh)) Q = WP E (c + 1) 76 64 ls [] (oh E ah A (exS A S tl t a w k (va_cpy af bf 0 0 7) af as sh)) Q := by
  have hx0 : cY E (oh E ah A (exS A S tl t a w k bf af as sh)) [.int 7, .int 0, .ref (A 4), .int 0, .ref (A 5)] = some ([], oh E ah A (exS A S tl t a w k (va_cpy af bf 0 0 7) af as sh)) := by
    unfold cY
    simp only [hx4 hO, hx5 hO, sx4 hO, show ¬ (0 : Int32) < 0 by decide, show ¬ (7 : Int32) < 0 by decide, show (0 : Int32).toNatClampNeg = 0 by decide, show (7 : Int32).toNatClampNeg = 7 by decide, show ¬ 7 < 0 + 7 by decide, not_true_eq_false, not_false_eq_true, if_true, if_false, or_self, and_self, true_and, and_true, or_true, true_or, false_or, or_false, false_and, and_false]
  have hx : xtA E (.ldc_w 2) [.int 7, .int 0, .ref (A 4), .int 0, .ref (A 5)] (oh E ah A (exS A S tl t a w k bf af as sh)) = some ([], oh E ah A (exS A S tl t a w k (va_cpy af bf 0 0 7) af as sh)) := by
    unfold xtA
    exact hx0
  exact wp_xt (q := ([], oh E ah A (exS A S tl t a w k (va_cpy af bf 0 0 7) af as sh))) i76_61 rfl rfl hx (by show 1 ≤ c + 1; omega) wds_nil
theorem cpy_7 {f g : Nat → Int64} {y : Nat} (hy : y < 7) : va_cpy f g 0 0 7 y = f y := by
  simp [va_cpy, hy]
theorem l_seek (hO : XO E ah A) (h : XB E ah A b) (hb : 81 ≤ b) (hgr : egR ax wh r fg mq n ei el) (hq : ∀ q, q < 11 → S (b + q) = eC A b ax wh (lN (wt r wh)) ms tu ei el q) (ht : trS A S sr mn tn) {j R f : Nat} (hj : j < 4) (hR : R ≤ mn j) (hR60 : R ≤ 60) (hf : f < R) {tl t a' w' k' : Int32} {SH : Nat → Int64} {l3 : Option Value} {Q : Option Value → aHp → Prop}
    (K : (∀ row q, row ≤ f → q < 3 * ((ax - 1) * wh) → ¬ cP ax wh r fg (sr j) (tn j) R row q) → ∀ bf af as sh, Q (some (.int (-1))) (oh E ah A (exS A S tl t a' w' k' bf af as sh)))
    (G : ∀ row q, row ≤ f → q < 3 * ((ax - 1) * wh) → cP ax wh r fg (sr j) (tn j) R row q → (∀ row' q', row' < row → q' < 3 * ((ax - 1) * wh) → ¬ cP ax wh r fg (sr j) (tn j) R row' q') → (∀ q', q' < q → ¬ cP ax wh r fg (sr j) (tn j) R row q') → ∀ bf af as sh, Q (some (.int 1)) (oh E ah A (exS A S 1 (nI (row + 1)) (nI (q / (3 * wh))) (nI (q / 3 % wh)) (nI (q % 3)) bf af as sh))) :
    ∀ z row bf Da as, row + z = f + 1 → (∀ row' q', row' < row → q' < 3 * ((ax - 1) * wh) → ¬ cP ax wh r fg (sr j) (tn j) R row' q') → WP E (c + 5) 76 42 [some (.ref (A 3)), some (.ref (A b)), some (.ref (A (73 + 2 * j))), l3, some (.int (nI R)), some (.int (nI f)), some (.int (nI row))] [] (oh E ah A (exS A S tl t a' w' k' bf (ovr Da 0 ax (fun y => lN (rX ax (wt r wh) row (NN r wh fg) y))) as (ovr SH 0 R (fun y => lN (rX ax (wt r wh) (y + 1) (NN r wh fg) 0))))) Q
  | 0, row, bf, Da, as, hz, hn => by
    have K := K (fun row' q h1 h2 => hn row' q (by omega) h2) bf (ovr Da 0 ax (fun y => lN (rX ax (wt r wh) row (NN r wh fg) y))) as (ovr SH 0 R (fun y => lN (rX ax (wt r wh) (y + 1) (NN r wh fg) 0)))
    rw [r76_42]
    simp (disch := first | assumption | omega | decide | (simp only [List.length_cons, List.length_nil, Nat.reduceAdd, Nat.reduceLT]; done) | fail) only [r76_44, r76_46, r76_100, r76_101, oGF_is, WPo_some, List.getElem?_cons_succ, List.getElem?_cons_zero, kil_n, kil_i, kil_a, kil_u, kil_l, Option.toList_some, Option.toList_none, List.cons_append, List.nil_append, List.set_cons_succ, List.set_cons_zero, addm1, Nat.reduceAdd, List.length_cons, List.length_nil, Nat.reduceLT, nI_clamp, nI_toInt, nI_leL, nI_Lle, nI_ltL, nI_Llt, nI_eqL, nI_Leq, nI_leE, nI_ltE, nI_eqE, nI_eqM, nI_add, nI_addL, nI_Ladd, nI_mulL, nI_Lmul, pk_mul, pk_sub, nI_subL, nI_Lsub, i2l_nI, Int.toNat_natCast, Nat.not_lt_zero, Nat.zero_le, ifT, ifF, not_true_eq_false, not_false_eq_true, if_true, if_false, or_self, and_self, true_and, and_true, or_true, true_or, false_or, or_false, false_and, and_false]
    exact K
  | z + 1, row, bf, Da, as, hz, hn => by
    have g0 := hgr.1
    have hr : ∀ w, w < wh → 2 ≤ r w ∧ r w ≤ 12 := fun w hw => (hgr.2.1 w hw).2
    have hd : dgL ax wh r fg := fun x w hx hw => (hgr.2.2.2.1 x w hx hw).2
    have hW := wt_63 g0.2.2.2 hr (Nat.le_refl wh)
    have hX := rX_b (ax := ax) hW.1 (NN_b hd)
    have p0 := fun bf af as sh => p_0 (S := exS A S tl t a' w' k' bf af as sh) (eSt_id (fun q hq' => by rw [exS_o (by omega)]; exact hq q hq')) h
    obtain ⟨Db, hDb⟩ : ∃ Db, Db = va_cpy (ovr Da 0 ax (fun y => lN (rX ax (wt r wh) row (NN r wh fg) y))) bf 0 0 7 := ⟨_, rfl⟩
    have rw1 := row_is (ax := ax) (D := Db) (X := rX ax (wt r wh) row (NN r wh fg)) (fun y hy => by rw [hDb, cpy_7 (by omega), ovr0_in hy])
    have kt := c_turnAxes (E := E) (c := c + 2) (p := A 5) g0.2.1 hW.2 hW.1 (hX row) (hx5 (S := S) (tl := tl) (t := t) (a := a') (w := w') (k := k') (bf := Db) (as := as) (sh := ovr SH 0 R (fun y => lN (rX ax (wt r wh) (y + 1) (NN r wh fg) 0))) (af := ovr Da 0 ax (fun y => lN (rX ax (wt r wh) row (NN r wh fg) y))) hO)
    rw [sx5 hO] at kt
    have ci3 : ∀ bf af as sh, oCI (hg E (oh E ah A (exS A S tl t a' w' k' bf af as sh)) (A 3)) = 4 := fun bf af as sh => by rw [hx3 hO]; rfl
    have ks := c_seekIn (c := c) hO h hb hgr hq ht hj hR hR60 (show row < R by omega) (tl := tl) (t := t) (a' := a') (w' := w') (k' := k') (Db := Db) (Da := Da) (SH := SH) (as := as)
    unfold skS at ks
    rw [← rw1] at ks
    rw [r76_42]
    rcases ks with ⟨hno, as', ev⟩ | ⟨q, as', ⟨h1, h2, h3⟩, ev⟩
    · have ih := l_seek hO h hb hgr hq ht hj hR hR60 hf (SH := SH) (l3 := l3) K G z (row + 1) Db Da as' (by omega) (fun row' q' h1 h2 => by
        by_cases y : row' = row
        · rw [y]; exact hno q' h2
        · exact hn row' q' (by omega) h2)
      rw [hDb] at kt ev ih
      have ev' : EV E (c + 4) 78 [.ref (A 3), .ref (A b), .ref (A (73 + 2 * j)), .int (nI row), .int (nI R)] (oh E ah A (exS A S tl t a' w' k' (va_cpy (ovr Da 0 ax (fun y => lN (rX ax (wt r wh) row (NN r wh fg) y))) bf 0 0 7) (ovr Da 0 ax (fun y => lN (trX ax (wt r wh) (rX ax (wt r wh) row (NN r wh fg)) y))) as (ovr SH 0 R (fun y => lN (rX ax (wt r wh) (y + 1) (NN r wh fg) 0))))) (some (.int 0)) _ := ev
      simp (disch := first | assumption | omega | decide | (simp only [List.length_cons, List.length_nil, Nat.reduceAdd, Nat.reduceLT]; done) | fail) only [r76_44, r76_46, r76_49, r76_50, r76_53, r76_54, r76_55, r76_58, r76_59, x76_61 hO, r76_64, r76_65, r76_68, r76_68n, r76_69, r76_72, r76_72n, r76_73, q76_76 kt, q76_86 ev' (ci3 _ _ _ _), p0, hx3 hO, oGF_is, WPo_some, List.getElem?_cons_succ, List.getElem?_cons_zero, kil_n, kil_i, kil_a, kil_u, kil_l, Option.toList_some, Option.toList_none, List.cons_append, List.nil_append, List.set_cons_succ, List.set_cons_zero, addm1, Nat.reduceAdd, List.length_cons, List.length_nil, Nat.reduceLT, nI_clamp, nI_toInt, nI_leL, nI_Lle, nI_ltL, nI_Llt, nI_eqL, nI_Leq, nI_leE, nI_ltE, nI_eqE, nI_eqM, nI_add, nI_addL, nI_Ladd, nI_mulL, nI_Lmul, pk_mul, pk_sub, nI_subL, nI_Lsub, i2l_nI, Int.toNat_natCast, Nat.not_lt_zero, Nat.zero_le, ifT, ifF, not_true_eq_false, not_false_eq_true, if_true, if_false, or_self, and_self, true_and, and_true, or_true, true_or, false_or, or_false, false_and, and_false, r76_79, r76_80, r76_80n, r76_81, r76_81n, r76_82, r76_84, r76_89, r76_92, r76_93, r76_94, r76_97]
      exact ih
    · have g := G row q (by omega) h1 h2 hn h3 Db (ovr Da 0 ax (fun y => lN (rX ax (wt r wh) (row + 1) (NN r wh fg) y))) as' (ovr SH 0 R (fun y => lN (rX ax (wt r wh) (y + 1) (NN r wh fg) 0)))
      rw [hDb] at kt ev g
      have ev' : EV E (c + 4) 78 [.ref (A 3), .ref (A b), .ref (A (73 + 2 * j)), .int (nI row), .int (nI R)] (oh E ah A (exS A S tl t a' w' k' (va_cpy (ovr Da 0 ax (fun y => lN (rX ax (wt r wh) row (NN r wh fg) y))) bf 0 0 7) (ovr Da 0 ax (fun y => lN (trX ax (wt r wh) (rX ax (wt r wh) row (NN r wh fg)) y))) as (ovr SH 0 R (fun y => lN (rX ax (wt r wh) (y + 1) (NN r wh fg) 0))))) (some (.int 1)) _ := ev
      simp (disch := first | assumption | omega | decide | (simp only [List.length_cons, List.length_nil, Nat.reduceAdd, Nat.reduceLT]; done) | fail) only [r76_44, r76_46, r76_49, r76_50, r76_53, r76_54, r76_55, r76_58, r76_59, x76_61 hO, r76_64, r76_65, r76_68, r76_68n, r76_69, r76_72, r76_72n, r76_73, q76_76 kt, q76_86 ev' (ci3 _ _ _ _), p0, hx3 hO, oGF_is, WPo_some, List.getElem?_cons_succ, List.getElem?_cons_zero, kil_n, kil_i, kil_a, kil_u, kil_l, Option.toList_some, Option.toList_none, List.cons_append, List.nil_append, List.set_cons_succ, List.set_cons_zero, addm1, Nat.reduceAdd, List.length_cons, List.length_nil, Nat.reduceLT, nI_clamp, nI_toInt, nI_leL, nI_Lle, nI_ltL, nI_Llt, nI_eqL, nI_Leq, nI_leE, nI_ltE, nI_eqE, nI_eqM, nI_add, nI_addL, nI_Ladd, nI_mulL, nI_Lmul, pk_mul, pk_sub, nI_subL, nI_Lsub, i2l_nI, Int.toNat_natCast, Nat.not_lt_zero, Nat.zero_le, ifT, ifF, not_true_eq_false, not_false_eq_true, if_true, if_false, or_self, and_self, true_and, and_true, or_true, true_or, false_or, or_false, false_and, and_false, r76_79, r76_80, r76_80n, r76_81, r76_81n, r76_82, r76_84, r76_89, r76_92, r76_93, show ¬ (1 : Int32) = 0 by decide]
      exact g
theorem c_seek (hO : XO E ah A) (h : XB E ah A b) (hb : 81 ≤ b) (hgr : egR ax wh r fg mq n ei el) (hq : ∀ q, q < 11 → S (b + q) = eC A b ax wh (lN (wt r wh)) ms tu ei el q) (ht : trS A S sr mn tn) {j R : Nat} (hj : j < 4) (hR : R ≤ mn j) (hR60 : R ≤ 60) {tl t a' w' k' : Int32} {bf af as sh : Nat → Int64} : ∃ tl' t' a2 w2 k2 bf' af' as' sh' res, EV E (c + 5) 76 [.ref (A 3), .ref (A b), .ref (A (73 + 2 * j)), .int (nI R)] (oh E ah A (exS A S tl t a' w' k' bf af as sh)) (some (.int res)) (oh E ah A (exS A S tl' t' a2 w2 k2 bf' af' as' sh')) ∧ (shw ax wh r cq0 fg (sr j) (tn j) R → res = 0 ∧ tl' = 0) ∧ (¬ shw ax wh r cq0 fg (sr j) (tn j) R → ∀ o, FS (tryP ax wh r fg (sr j) (tn j) R) R (3 * (ax - 1) * wh) o → (o = none → res = -1 ∧ tl' = tl ∧ t' = t ∧ a2 = a' ∧ w2 = w' ∧ k2 = k') ∧ ∀ t0 q, o = some (t0, q) → res = 1 ∧ tl' = 1 ∧ t' = nI (t0 + 1) ∧ a2 = nI (q / (3 * wh)) ∧ w2 = nI (q / 3 % wh) ∧ k2 = nI (q % 3)) := by
  have g0 := hgr.1
  have hr : ∀ w, w < wh → 2 ≤ r w ∧ r w ≤ 12 := fun w hw => (hgr.2.1 w hw).2
  have hd : dgL ax wh r fg := fun x w hx hw => (hgr.2.2.2.1 x w hx hw).2
  have eQ : 3 * (ax - 1) * wh = 3 * ((ax - 1) * wh) := Nat.mul_assoc _ _ _
  obtain ⟨xR, hx⟩ := fwI_ex (okN ax (wt r wh) (NN r wh fg) (sr j) (tn j)) R
  have k1 := c_swm (c := c + 1) hO h hb hgr hq ht hj hR hR60 (tl := tl) (t := t) (a := a') (w := w') (k := k') (bf := bf) (as := as) (D := af) (SH := sh) hx
  have ci3 : ∀ tl t a' w' k' bf af as sh, oCI (hg E (oh E ah A (exS A S tl t a' w' k' bf af as sh)) (A 3)) = 4 := fun tl t a' w' k' bf af as sh => by rw [hx3 hO]; rfl
  have mn1 : (if 60 < R then (60 : Int32) else nI R) = nI R := if_neg (by omega)
  rcases hx with ⟨hx1, hx2⟩ | ⟨f, f1, f2, f3, f4⟩
  · subst hx2
    have ok : shw ax wh r cq0 fg (sr j) (tn j) R := (shw_0 hd).mpr hx1
    refine ⟨0, t, a', w', k', bf, ovr af 0 ax (fun y => lN (rX ax (wt r wh) R (NN r wh fg) y)), as, ovr sh 0 R (fun y => lN (rX ax (wt r wh) (y + 1) (NN r wh fg) 0)), 0, e76 ?_, fun _ => ⟨rfl, rfl⟩, fun z => absurd ok z⟩
    simp (disch := first | assumption | omega | decide | (simp only [List.length_cons, List.length_nil, Nat.reduceAdd, Nat.reduceLT]; done) | fail) only [r76_0, r76_1, r76_6, r76_8, r76_9, r76_9n, r76_10, r76_10n, r76_11, r76_16, r76_18, r76_20, r76_21, r76_24, r76_25, r76_26, r76_29, r76_30, q76_3 c_min, q76_13 k1 (ci3 _ _ _ _ _ _ _ _ _), hx3 hO, sx3 hO, pf_4043 (Or.inl rfl), oGF_is, WPo_some, List.getElem?_cons_succ, List.getElem?_cons_zero, kil_n, kil_i, kil_a, kil_u, kil_l, Option.toList_some, Option.toList_none, List.cons_append, List.nil_append, List.set_cons_succ, List.set_cons_zero, addm1, Nat.reduceAdd, List.length_cons, List.length_nil, Nat.reduceLT, nI_clamp, nI_toInt, nI_leL, nI_Lle, nI_ltL, nI_Llt, nI_eqL, nI_Leq, nI_leE, nI_ltE, nI_eqE, nI_eqM, nI_add, nI_addL, nI_Ladd, nI_mulL, nI_Lmul, pk_mul, pk_sub, nI_subL, nI_Lsub, i2l_nI, Int.toNat_natCast, Nat.not_lt_zero, Nat.zero_le, ifT, ifF, mn1, not_true_eq_false, not_false_eq_true, if_true, if_false, or_self, and_self, true_and, and_true, or_true, true_or, false_or, or_false, false_and, and_false]
  · subst f4
    have nok : ¬ shw ax wh r cq0 fg (sr j) (tn j) R := fun z => f3 ((shw_0 hd).mp z f f1)
    have tr : ∀ t0 q, t0 < R → q < 3 * ((ax - 1) * wh) → (tryP ax wh r fg (sr j) (tn j) R t0 q ↔ t0 ≤ f ∧ cP ax wh r fg (sr j) (tn j) R t0 q) := fun t0 q h1 h2 => by
      have w1 : q / (3 * wh) < ax - 1 := Nat.div_lt_of_lt_mul (by
        have e1 : 3 * wh * (ax - 1) = 3 * ((ax - 1) * wh) := by rw [Nat.mul_assoc, Nat.mul_comm wh]
        rw [e1]
        exact h2)
      have w2 : q / 3 % wh < wh := Nat.mod_lt _ (by omega)
      exact try_is g0.2.1 g0.1 hr hd (by omega) w2 (by omega) f1 f2 f3
    obtain ⟨o, ho⟩ := FS_ex (tryP ax wh r fg (sr j) (tn j) R) R (3 * (ax - 1) * wh)
    have l := l_seek (c := c) hO h hb hgr hq ht hj hR hR60 f1 (tl := tl) (t := t) (a' := a') (w' := w') (k' := k') (SH := sh) (l3 := some (.int (nI R))) (Q := fun r1 x1 => ∃ tl' t' a2 w2 k2 bf' af' as' sh' res, r1 = some (.int res) ∧ x1 = oh E ah A (exS A S tl' t' a2 w2 k2 bf' af' as' sh') ∧ (o = none → res = -1 ∧ tl' = tl ∧ t' = t ∧ a2 = a' ∧ w2 = w' ∧ k2 = k') ∧ ∀ t0 q, o = some (t0, q) → res = 1 ∧ tl' = 1 ∧ t' = nI (t0 + 1) ∧ a2 = nI (q / (3 * wh)) ∧ w2 = nI (q / 3 % wh) ∧ k2 = nI (q % 3)) (fun hno bf af as sh => by
      refine ⟨tl, t, a', w', k', bf, af, as, sh, -1, rfl, rfl, fun _ => ⟨rfl, rfl, rfl, rfl, rfl, rfl⟩, fun t0 q ho2 => ?_⟩
      rw [ho2] at ho
      have h2 := ho.2.1
      rw [eQ] at h2
      have := (tr t0 q ho.1 h2).mp ho.2.2.1
      exact absurd this.2 (hno t0 q this.1 h2)) (fun row q h1 h2 h3 h4 h5 bf af as sh => by
      have hfs : FS (tryP ax wh r fg (sr j) (tn j) R) R (3 * (ax - 1) * wh) (some (row, q)) := by
        refine ⟨by omega, by rw [eQ]; exact h2, (tr row q (by omega) h2).mpr ⟨h1, h3⟩, fun t' q' a1 a2 a3 => ?_, fun q' a1 a3 => ?_⟩
        · rw [eQ] at a2
          exact h4 t' q' a1 a2 ((tr t' q' (by omega) a2).mp a3).2
        · exact h5 q' a1 ((tr row q' (by omega) (by omega)).mp a3).2
      have hot := FS_un ho hfs
      refine ⟨1, _, _, _, _, bf, af, as, sh, 1, rfl, rfl, fun z => absurd (hot.symm.trans z) (by simp), fun t0 q0 z => ?_⟩
      have z2 := hot.symm.trans z
      injection z2 with z3
      injection z3 with z4 z5
      subst z4 z5
      exact ⟨rfl, rfl, rfl, rfl, rfl, rfl⟩) (f + 1) 0 bf (ovr af 0 ax (fun y => lN (rX ax (wt r wh) R (NN r wh fg) y))) as (by omega) (fun row' q' h1 => absurd h1 (by omega))
    obtain ⟨r1, x1, ⟨tl', t', a2, w2, k2, bf', af', as', sh', res, hr1, hx1, p1, p2⟩, hw⟩ := l.ex
    subst hr1 hx1
    refine ⟨tl', t', a2, w2, k2, bf', af', as', sh', res, e76 ?_, fun z => absurd z nok, fun _ o2 ho2 => by rw [FS_un ho2 ho]; exact ⟨p1, p2⟩⟩
    have kc := c_copyN (c := c + 2) hO h hb hgr hq (tl := tl) (t := t) (a := a') (w := w') (k := k') (bf := bf) (as := as) (sh := ovr sh 0 R (fun y => lN (rX ax (wt r wh) (y + 1) (NN r wh fg) 0))) (D := ovr af 0 ax (fun y => lN (rX ax (wt r wh) R (NN r wh fg) y)))
    have hS := eSt_id (S := exS A S tl t a' w' k' bf (ovr af 0 ax (fun y => lN (rX ax (wt r wh) R (NN r wh fg) y))) as (ovr sh 0 R (fun y => lN (rX ax (wt r wh) (y + 1) (NN r wh fg) 0)))) (A := A) (b := b) (ax := ax) (wh := wh) (al := lN (wt r wh)) (ms := ms) (tu := tu) (ei := ei) (el := el) (fun q hq' => by rw [exS_o (by omega)]; exact hq q hq')
    simp (disch := first | assumption | omega | decide | (simp only [List.length_cons, List.length_nil, Nat.reduceAdd, Nat.reduceLT]; done) | fail) only [r76_0, r76_1, r76_6, r76_8, r76_9, r76_9n, r76_10, r76_10n, r76_11, r76_16, r76_18, r76_20, r76_21, r76_24, r76_25, r76_26, r76_29, r76_30, r76_31, r76_31n, r76_32, r76_33, q76_3 c_min, q76_13 k1 (ci3 _ _ _ _ _ _ _ _ _), hx3 hO, q76_36 kc (p_ci hS h), oGF_is, WPo_some, List.getElem?_cons_succ, List.getElem?_cons_zero, kil_n, kil_i, kil_a, kil_u, kil_l, Option.toList_some, Option.toList_none, List.cons_append, List.nil_append, List.set_cons_succ, List.set_cons_zero, addm1, Nat.reduceAdd, List.length_cons, List.length_nil, Nat.reduceLT, nI_clamp, nI_toInt, nI_leL, nI_Lle, nI_ltL, nI_Llt, nI_eqL, nI_Leq, nI_leE, nI_ltE, nI_eqE, nI_eqM, nI_add, nI_addL, nI_Ladd, nI_mulL, nI_Lmul, pk_mul, pk_sub, nI_subL, nI_Lsub, i2l_nI, Int.toNat_natCast, Nat.not_lt_zero, Nat.zero_le, ifT, ifF, mn1, not_true_eq_false, not_false_eq_true, if_true, if_false, or_self, and_self, true_and, and_true, or_true, true_or, false_or, or_false, false_and, and_false, r76_39, r76_40]
    exact hw
end SK7

/-! The class' explanation: seeking in a turn -/
theorem q_parts {a w k wh : Nat} (hw : w < wh) (hk : k < 3) : (3 * (a * wh + w) + k) / (3 * wh) = a ∧ (3 * (a * wh + w) + k) / 3 % wh = w ∧ (3 * (a * wh + w) + k) % 3 = k := by
  have e1 : (3 * (a * wh + w) + k) / 3 = a * wh + w := by omega
  refine ⟨?_, ?_, by omega⟩
  · rw [← Nat.div_div_eq_div_mul, e1, Nat.add_comm, Nat.add_mul_div_right _ _ (by omega), Nat.div_eq_of_lt hw, Nat.zero_add]
  · rw [e1, Nat.add_comm, Nat.add_mul_mod_self_right, Nat.mod_eq_of_lt hw]
noncomputable def cP (ax wh : Nat) (r : Nat → Nat) (fg : Nat → Nat → Nat) (s : Int32) (N : Nat → Int64) (R row q : Nat) : Prop := ¬ dlT ax wh r fg row (q / (3 * wh)) (q / 3 % wh) (q % 3) = 0 ∧ agr ax (wt r wh) (NN r wh fg) (asD (q / (3 * wh)) (q % 3) (dlT ax wh r fg row (q / (3 * wh)) (q / 3 % wh) (q % 3))) s N R row
section SIT
variable {E : aEnv} {c b ax wh : Nat} {ah : aHp} {A : Nat → Nat} {S : Nat → aE} {ms tu : Int32} {ei : Nat → Nat → Int32} {el : Nat → Nat → Int64} {r : Nat → Nat} {fg mq : Nat → Nat → Nat} {n : Nat} {sr : Nat → Int32} {mn : Nat → Nat} {tn : Nat → Nat → Int64}
theorem asD_b {W a k d : Nat} (hd : d < W) : bA ax W (asD a k d) := fun y hy => by
  unfold asD
  split
  · exact hd
  · split
    · exact hd
    · omega
theorem l_sitK (hO : XO E ah A) (h : XB E ah A b) (hb : 81 ≤ b) (hgr : egR ax wh r fg mq n ei el) (hq : ∀ q, q < 11 → S (b + q) = eC A b ax wh (lN (wt r wh)) ms tu ei el q) (ht : trS A S sr mn tn) {j R row : Nat} (hj : j < 4) (hR : R ≤ mn j) (hR60 : R ≤ 60) (hrow : row < R) {tl t a' w' k' : Int32} {Db Da SH : Nat → Int64} {a w : Nat} (ha : a + 1 < ax) (hw : w < wh) {Q : Option Value → aHp → Prop}
    (K : (∀ q, q < 3 * (a * wh + w) + 3 → ¬ cP ax wh r fg (sr j) (tn j) R row q) → ∀ as, WP E (c + 4) 78 82 [some (.ref (A 3)), some (.ref (A b)), some (.ref (A (73 + 2 * j))), some (.int (nI row)), some (.int (nI R)), some (.int (nI a)), some (.int (nI w)), some (.int (nI 3))] [] (oh E ah A (exS A S tl t a' w' k' (ovr Db 0 ax (fun y => lN (rX ax (wt r wh) row (NN r wh fg) y))) (ovr Da 0 ax (fun y => lN (rX ax (wt r wh) (row + 1) (NN r wh fg) y))) as (ovr SH 0 R (fun y => lN (rX ax (wt r wh) (y + 1) (NN r wh fg) 0))))) Q)
    (G : ∀ k as, k < 3 → cP ax wh r fg (sr j) (tn j) R row (3 * (a * wh + w) + k) → (∀ q, q < 3 * (a * wh + w) + k → ¬ cP ax wh r fg (sr j) (tn j) R row q) → Q (some (.int 1)) (oh E ah A (exS A S 1 (nI (row + 1)) (nI a) (nI w) (nI k) (ovr Db 0 ax (fun y => lN (rX ax (wt r wh) row (NN r wh fg) y))) (ovr Da 0 ax (fun y => lN (rX ax (wt r wh) (row + 1) (NN r wh fg) y))) as (ovr SH 0 R (fun y => lN (rX ax (wt r wh) (y + 1) (NN r wh fg) 0)))))) :
    ∀ z k as, k + z = 3 → (∀ q, q < 3 * (a * wh + w) + k → ¬ cP ax wh r fg (sr j) (tn j) R row q) → WP E (c + 4) 78 29 [some (.ref (A 3)), some (.ref (A b)), some (.ref (A (73 + 2 * j))), some (.int (nI row)), some (.int (nI R)), some (.int (nI a)), some (.int (nI w)), some (.int (nI k))] [] (oh E ah A (exS A S tl t a' w' k' (ovr Db 0 ax (fun y => lN (rX ax (wt r wh) row (NN r wh fg) y))) (ovr Da 0 ax (fun y => lN (rX ax (wt r wh) (row + 1) (NN r wh fg) y))) as (ovr SH 0 R (fun y => lN (rX ax (wt r wh) (y + 1) (NN r wh fg) 0))))) Q
  | 0, k, as, hz, hn => by
    have K := K (fun q hq => hn q (by omega)) as
    rw [show k = 3 by omega, r78_29]
    simp (disch := first | assumption | omega | decide | (simp only [List.length_cons, List.length_nil, Nat.reduceAdd, Nat.reduceLT]; done) | fail) only [r78_31, r78_32, oGF_is, WPo_some, List.getElem?_cons_succ, List.getElem?_cons_zero, kil_n, kil_i, kil_a, kil_u, kil_l, Option.toList_some, Option.toList_none, List.cons_append, List.nil_append, List.set_cons_succ, List.set_cons_zero, addm1, Nat.reduceAdd, List.length_cons, List.length_nil, Nat.reduceLT, nI_clamp, nI_toInt, nI_leL, nI_Lle, nI_ltL, nI_Llt, nI_eqL, nI_Leq, nI_leE, nI_ltE, nI_eqE, nI_eqM, nI_add, nI_addL, nI_Ladd, nI_mulL, nI_Lmul, pk_mul, pk_sub, nI_subL, nI_Lsub, i2l_nI, Int.toNat_natCast, Nat.not_lt_zero, Nat.zero_le, ifT, ifF, not_true_eq_false, not_false_eq_true, if_true, if_false, or_self, and_self, true_and, and_true, or_true, true_or, false_or, or_false, false_and, and_false]
    exact K
  | z + 1, k, as, hz, hn => by
    have g0 := hgr.1
    have hr : ∀ w, w < wh → 2 ≤ r w ∧ r w ≤ 12 := fun w hw => (hgr.2.1 w hw).2
    have hd : dgL ax wh r fg := fun x w hx hw => (hgr.2.2.2.1 x w hx hw).2
    have hW := wt_63 g0.2.2.2 hr (Nat.le_refl wh)
    have hX := rX_b (ax := ax) hW.1 (NN_b hd)
    obtain ⟨q1, q2, q3⟩ := q_parts (a := a) (w := w) (k := k) hw (show k < 3 by omega)
    obtain ⟨D', kl⟩ := c_lead (c := c) hO h hb hgr hq ha hw (show k ≤ 2 by omega) (tl := tl) (t := t) (a' := a') (w' := w') (k' := k') (Db := Db) (Da := Da) (as := as) (sh := ovr SH 0 R (fun y => lN (rX ax (wt r wh) (y + 1) (NN r wh fg) 0))) (hX row) (hX (row + 1))
    have ci3 : ∀ as, oCI (hg E (oh E ah A (exS A S tl t a' w' k' (ovr Db 0 ax (fun y => lN (rX ax (wt r wh) row (NN r wh fg) y))) (ovr Da 0 ax (fun y => lN (rX ax (wt r wh) (row + 1) (NN r wh fg) y))) as (ovr SH 0 R (fun y => lN (rX ax (wt r wh) (y + 1) (NN r wh fg) 0))))) (A 3)) = 4 := fun as => by rw [hx3 hO]; rfl
    obtain ⟨as2, ka⟩ := c_agr (c := c) hO h hb hgr hq ht hj hR hR60 (tl := tl) (t := t) (a' := a') (w' := w') (k' := k') (bf := ovr Db 0 ax (fun y => lN (rX ax (wt r wh) row (NN r wh fg) y))) (af := ovr Da 0 ax (fun y => lN (rX ax (wt r wh) (row + 1) (NN r wh fg) y))) (SH := SH) (Das := D') (X := NN r wh fg) (D := asD a k (dlN r (wt r wh) a w k (rX ax (wt r wh) row (NN r wh fg)) (rX ax (wt r wh) (row + 1) (NN r wh fg)))) (NN_b hd) (asD_b (dl_lt hr hw)) (row := row) (by omega)
    have nxt : ¬ cP ax wh r fg (sr j) (tn j) R row (3 * (a * wh + w) + k) → ∀ as, WP E (c + 4) 78 29 [some (.ref (A 3)), some (.ref (A b)), some (.ref (A (73 + 2 * j))), some (.int (nI row)), some (.int (nI R)), some (.int (nI a)), some (.int (nI w)), some (.int (nI (k + 1)))] [] (oh E ah A (exS A S tl t a' w' k' (ovr Db 0 ax (fun y => lN (rX ax (wt r wh) row (NN r wh fg) y))) (ovr Da 0 ax (fun y => lN (rX ax (wt r wh) (row + 1) (NN r wh fg) y))) as (ovr SH 0 R (fun y => lN (rX ax (wt r wh) (y + 1) (NN r wh fg) 0))))) Q := fun no as => l_sitK hO h hb hgr hq ht hj hR hR60 hrow ha hw K G z (k + 1) as (by omega) (fun q hq => by
      by_cases y : q = 3 * (a * wh + w) + k
      · rw [y]; exact no
      · exact hn q (by omega))
    rw [r78_29]
    by_cases d0 : dlN r (wt r wh) a w k (rX ax (wt r wh) row (NN r wh fg)) (rX ax (wt r wh) (row + 1) (NN r wh fg)) = 0
    · have ih := nxt (fun y => by
        have y1 := y.1
        rw [q1, q2, q3] at y1
        exact y1 d0) (ovr D' 0 ax (fun y => lN (asD a k (dlN r (wt r wh) a w k (rX ax (wt r wh) row (NN r wh fg)) (rX ax (wt r wh) (row + 1) (NN r wh fg))) y)))
      rw [d0] at ih
      rw [b2i_f (not_not_intro d0)] at kl
      rw [d0] at kl
      simp (disch := first | assumption | omega | decide | (simp only [List.length_cons, List.length_nil, Nat.reduceAdd, Nat.reduceLT]; done) | fail) only [r78_31, r78_32, r78_35, r78_36, r78_36n, r78_37, r78_39, r78_41, r78_46, q78_43 kl (ci3 _), oGF_is, WPo_some, List.getElem?_cons_succ, List.getElem?_cons_zero, kil_n, kil_i, kil_a, kil_u, kil_l, Option.toList_some, Option.toList_none, List.cons_append, List.nil_append, List.set_cons_succ, List.set_cons_zero, addm1, Nat.reduceAdd, List.length_cons, List.length_nil, Nat.reduceLT, nI_clamp, nI_toInt, nI_leL, nI_Lle, nI_ltL, nI_Llt, nI_eqL, nI_Leq, nI_leE, nI_ltE, nI_eqE, nI_eqM, nI_add, nI_addL, nI_Ladd, nI_mulL, nI_Lmul, pk_mul, pk_sub, nI_subL, nI_Lsub, i2l_nI, Int.toNat_natCast, Nat.not_lt_zero, Nat.zero_le, ifT, ifF, not_true_eq_false, not_false_eq_true, if_true, if_false, or_self, and_self, true_and, and_true, or_true, true_or, false_or, or_false, false_and, and_false, r78_76, r78_79]
      exact ih
    · rw [b2i_t d0] at kl
      by_cases ag : agr ax (wt r wh) (NN r wh fg) (asD a k (dlN r (wt r wh) a w k (rX ax (wt r wh) row (NN r wh fg)) (rX ax (wt r wh) (row + 1) (NN r wh fg)))) (sr j) (tn j) R row
      · rw [bC_t ag] at ka
        have g := G k as2 (by omega) (by
          unfold cP
          rw [q1, q2, q3]
          exact ⟨d0, ag⟩) hn
        simp (disch := first | assumption | omega | decide | (simp only [List.length_cons, List.length_nil, Nat.reduceAdd, Nat.reduceLT]; done) | fail) only [r78_31, r78_32, r78_35, r78_36, r78_36n, r78_37, r78_39, r78_41, r78_46, r78_49, r78_50, r78_50n, r78_51, r78_51n, r78_52, r78_53, r78_58, r78_61, r78_62, r78_63, r78_64, r78_65, r78_67, r78_69, r78_74, r78_75 (x := 0) (Or.inl rfl), r78_75 (x := 1) (Or.inr rfl), r78_75 (b2i_or _), q78_43 kl (ci3 _), q78_55 ka (ci3 _), q78_71 (c_tellOf hO) (ci3 _), oGF_is, WPo_some, List.getElem?_cons_succ, List.getElem?_cons_zero, kil_n, kil_i, kil_a, kil_u, kil_l, Option.toList_some, Option.toList_none, List.cons_append, List.nil_append, List.set_cons_succ, List.set_cons_zero, addm1, Nat.reduceAdd, List.length_cons, List.length_nil, Nat.reduceLT, nI_clamp, nI_toInt, nI_leL, nI_Lle, nI_ltL, nI_Llt, nI_eqL, nI_Leq, nI_leE, nI_ltE, nI_eqE, nI_eqM, nI_add, nI_addL, nI_Ladd, nI_mulL, nI_Lmul, pk_mul, pk_sub, nI_subL, nI_Lsub, i2l_nI, Int.toNat_natCast, Nat.not_lt_zero, Nat.zero_le, ifT, ifF, not_true_eq_false, not_false_eq_true, if_true, if_false, or_self, and_self, true_and, and_true, or_true, true_or, false_or, or_false, false_and, and_false, show ¬ (1 : Int32) = 0 by decide]
        exact g
      · rw [bC_f ag] at ka
        have ih := nxt (fun y => by
          have y1 := y.2
          rw [q1, q2, q3] at y1
          exact ag y1) as2
        simp (disch := first | assumption | omega | decide | (simp only [List.length_cons, List.length_nil, Nat.reduceAdd, Nat.reduceLT]; done) | fail) only [r78_31, r78_32, r78_35, r78_36, r78_36n, r78_37, r78_39, r78_41, r78_46, r78_49, r78_50, r78_50n, r78_51, r78_51n, r78_52, r78_53, r78_58, q78_43 kl (ci3 _), q78_55 ka (ci3 _), oGF_is, WPo_some, List.getElem?_cons_succ, List.getElem?_cons_zero, kil_n, kil_i, kil_a, kil_u, kil_l, Option.toList_some, Option.toList_none, List.cons_append, List.nil_append, List.set_cons_succ, List.set_cons_zero, addm1, Nat.reduceAdd, List.length_cons, List.length_nil, Nat.reduceLT, nI_clamp, nI_toInt, nI_leL, nI_Lle, nI_ltL, nI_Llt, nI_eqL, nI_Leq, nI_leE, nI_ltE, nI_eqE, nI_eqM, nI_add, nI_addL, nI_Ladd, nI_mulL, nI_Lmul, pk_mul, pk_sub, nI_subL, nI_Lsub, i2l_nI, Int.toNat_natCast, Nat.not_lt_zero, Nat.zero_le, ifT, ifF, not_true_eq_false, not_false_eq_true, if_true, if_false, or_self, and_self, true_and, and_true, or_true, true_or, false_or, or_false, false_and, and_false, r78_76, r78_79, show ¬ (1 : Int32) = 0 by decide]
        exact ih
end SIT

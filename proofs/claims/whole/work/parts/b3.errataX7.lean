/-! Errata of the class: the least option -/
noncomputable def mvd (k : Nat) (o : Option Nat) (ch : Int) (t : Nat) : Int := match o with
  | none => 0
  | some j => fac k ((j : Int) - t) * ch
/-- a change of value i by x makes all its differences small -/
noncomputable def Gok (n k b : Nat) (F : Nat → Int) (i : Nat) (x : Int) : Prop := ∀ t, t + k < n → t ≤ i → i ≤ t + k → (F t + fac k ((i : Int) - t) * x).natAbs ≤ b
section EX7
variable {E : aEnv} {c : Nat} {ah : aHp} {A : Nat → Nat} {S : Nat → aE} {fn : Int32} {vl oc wi sh : Nat → Int32} {dl : Nat → Int64} {OP : Nat → Nat → Int32} {n k b : Nat} {V : Nat → Nat}
theorem mul_bd {a b : Int} {B C : Nat} (h : a.natAbs ≤ B) (g : b.natAbs ≤ C) : (a * b).natAbs ≤ B * C := by
  rw [Int.natAbs_mul]
  exact Nat.mul_le_mul h g
theorem mvd_bd (h1 : 1 ≤ k) (h4 : k ≤ 4) {o : Option Nat} {ch : Int} (hch : ch.natAbs ≤ 99999999) {t : Nat} : (mvd k o ch t).natAbs ≤ 600000000 := by
  cases o with
  | none => show (0 : Int).natAbs ≤ _; decide
  | some j =>
    have := mul_bd (fac_le (s := (j : Int) - t) h1 h4) hch
    show (fac k ((j : Int) - t) * ch).natAbs ≤ _
    omega
theorem l_ls1 (hO : XO E ah A) (hE : ErE E) (h1 : 1 ≤ k) (h4 : k ≤ 4) (hn : n ≤ 20) (hkn : k < n) (hb : b ≤ 1000) {F : Nat → Int} (hF : ∀ t, t + k < n → dl t = iL (F t) ∧ (F t).natAbs ≤ 1600000000) {i : Nat} (hi' : i < n) {o : Option Nat} (ho : ∀ j, o = some j → j < 20) {ch : Int} (hch : ch.natAbs ≤ 99999999) {Q : Option Value → aHp → Prop} : ∀ z t L H l6, t + z = min i (n - k - 1) + 1 → i - k ≤ t → L.natAbs ≤ 1000000000000 → H.natAbs ≤ 1000000000000 → (∀ L' H' l6, L'.natAbs ≤ 1000000000000 → H'.natAbs ≤ 1000000000000 → (∀ x, (L' ≤ x ∧ x ≤ H') ↔ ((L ≤ x ∧ x ≤ H) ∧ ∀ q, t ≤ q → q ≤ min i (n - k - 1) → (F q + mvd k o ch q + fac k ((i : Int) - q) * x).natAbs ≤ b)) → WP E (c + 2) 68 70 [some (.ref (A 19)), some (.int (nI i)), some (.int (onI o)), some (.long (iL ch)), none, some (.int (nI (min i (n - k - 1) + 1))), l6, none] [] (oh E ah A (eS A S fn (nI n) (nI k) (nI b) (iL L') (iL H') vl oc wi sh dl OP)) Q) → WP E (c + 2) 68 11 [some (.ref (A 19)), some (.int (nI i)), some (.int (onI o)), some (.long (iL ch)), none, some (.int (nI t)), l6, none] [] (oh E ah A (eS A S fn (nI n) (nI k) (nI b) (iL L) (iL H) vl oc wi sh dl OP)) Q
  | 0, t, L, H, l6, hz, hf, hL, hH, K => by
    have K := K L H l6 hL hH (fun x => ⟨fun z => ⟨z, fun q q1 q2 => absurd q2 (by omega)⟩, fun z => z.1⟩)
    have kl := c_last (E := E) (c := c) (S := S) (fn := fn) (bd := nI b) (lo := iL L) (hi := iL H) (vl := vl) (oc := oc) (wi := wi) (sh := sh) (dl := dl) (OP := OP) hO hi' hn hkn
    rw [show t = min i (n - k - 1) + 1 by omega, r68_11]
    generalize hm : min i (n - k - 1) = m at *
    simp (disch := first | assumption | omega | decide | (simp only [List.length_cons, List.length_nil, Nat.reduceAdd, Nat.reduceLT]; done) | fail) only [r68_13, r68_14, r68_18, q68_15 kl (er_ci hO), oGF_is, WPo_some, List.getElem?_cons_succ, List.getElem?_cons_zero, kil_n, kil_i, kil_a, kil_u, kil_l, Option.toList_some, Option.toList_none, List.cons_append, List.nil_append, List.set_cons_succ, List.set_cons_zero, addm1, Nat.reduceAdd, List.length_cons, List.length_nil, Nat.reduceLT, nI_clamp, nI_toInt, nI_leL, nI_Lle, nI_ltL, nI_Llt, nI_eqL, nI_Leq, nI_leE, nI_ltE, nI_eqE, nI_eqM, nI_add, nI_addL, nI_Ladd, nI_mulL, nI_Lmul, pk_mul, pk_sub, nI_subL, nI_Lsub, i2l_nI, Int.toNat_natCast, Nat.not_lt_zero, Nat.zero_le, ifT, ifF, not_true_eq_false, not_false_eq_true, if_true, if_false, or_self, and_self, true_and, and_true, or_true, true_or, false_or, or_false, false_and, and_false]
    exact K
  | z + 1, t, L, H, l6, hz, hf, hL, hH, K => by
    have ht : t + k < n := by omega
    have hit : t ≤ i ∧ i ≤ t + k := by omega
    obtain ⟨d1, d2⟩ := hF t ht
    have cc0 : fac k ((i : Int) - t) ≠ 0 := fun z => by
      rw [fac_0 h1 h4] at z
      omega
    have cc6 := fac_le (s := (i : Int) - t) h1 h4
    have mb := mvd_bd (t := t) (o := o) h1 h4 hch
    have kn := c_narrow (E := E) (c := c) (S := S) (fn := fn) (n := n) (k := k) (vl := vl) (oc := oc) (wi := wi) (sh := sh) (dl := dl) (OP := OP) hO hb (L := L) (H := H) (D := F t + mvd k o ch t) cc0 cc6 (by omega) hL hH
    obtain ⟨b1, b2, -⟩ := nar_bd (b := b) (L := L) (H := H) (D := F t + mvd k o ch t) cc0 hb (by omega) hL hH
    have kl := c_last (E := E) (c := c) (S := S) (fn := fn) (bd := nI b) (lo := iL L) (hi := iL H) (vl := vl) (oc := oc) (wi := wi) (sh := sh) (dl := dl) (OP := OP) hO hi' hn hkn
    have kf := c_factor (E := E) (c := c + 1) (S := S) (fn := fn) (mn := nI n) (bd := nI b) (lo := iL L) (hi := iL H) (vl := vl) (oc := oc) (wi := wi) (sh := sh) (dl := dl) (OP := OP) hO hE h1 h4 rfl (s := nI i - nI t)
    rw [ii_sub (by omega) (by omega)] at kf
    have ih := fun l6 => l_ls1 hO hE h1 h4 hn hkn hb hF hi' ho hch (Q := Q) z (t + 1) (nLo b L (F t + mvd k o ch t) (fac k ((i : Int) - t))) (nHi b H (F t + mvd k o ch t) (fac k ((i : Int) - t))) l6 (by omega) (by omega) b1 b2 (fun L' H' l6 q1 q2 q3 => K L' H' l6 q1 q2 (fun x => by
      rw [q3 x, nar_iff cc0]
      constructor
      · rintro ⟨⟨p1, p2⟩, p3⟩
        refine ⟨p1, fun q w1 w2 => ?_⟩
        by_cases y : q = t
        · rw [y]; exact p2
        · exact p3 q (by omega) w2
      · rintro ⟨p1, p2⟩
        exact ⟨⟨p1, p2 t (by omega) (by omega)⟩, fun q w1 w2 => p2 q (by omega) w2⟩))
    have e1 : iL (F t) + iL (mvd k o ch t) = iL (F t + mvd k o ch t) := iL_add _ _
    have tl : ¬ min i (n - k - 1) < t := by omega
    rw [r68_11]
    cases o with
    | none =>
      have ih := ih (some (.long (iL (mvd k none ch t))))
      have e0 : (0 : Int64) = iL (mvd k none ch t) := rfl
      generalize hm : min i (n - k - 1) = m at *
      simp (disch := first | assumption | omega | decide | (simp only [List.length_cons, List.length_nil, Nat.reduceAdd, Nat.reduceLT]; done) | fail) only [r68_13, r68_14, r68_18, r68_21, r68_22, r68_23, r68_26, r68_27, r68_30, r68_31, r68_32, r68_34, r68_38, r68_39, r68_40, r68_42, r68_43, r68_44, r68_47, r68_49, r68_50, r68_52, r68_53, r68_54, r68_55, r68_57, r68_64, r68_67, q68_15 kl (er_ci hO), q68_58 kf (er_ci hO), q68_61 kn (er_ci hO), hr19 hO, hr21 hO, gL, d1, onI, nI_clamp, nI_leL, nI_Lle, nI_ltL, nI_Llt, nI_leE, nI_ltE, nI_addL, ifT, ifF, Nat.not_lt_zero, Nat.zero_le, oGF_is, WPo_some, List.getElem?_cons_succ, List.getElem?_cons_zero, kil_n, kil_i, kil_a, kil_u, kil_l, Option.toList_some, Option.toList_none, List.cons_append, List.nil_append, List.set_cons_succ, List.set_cons_zero, addm1, Nat.reduceAdd, List.length_cons, List.length_nil, Nat.reduceLT, not_true_eq_false, not_false_eq_true, if_true, if_false, or_self, and_self, true_and, and_true, or_true, true_or, false_or, or_false, false_and, and_false]
      rw [e0, e1]
      simp (disch := first | assumption | omega | decide | (simp only [List.length_cons, List.length_nil, Nat.reduceAdd, Nat.reduceLT]; done) | fail) only [r68_53, r68_54, r68_55, r68_57, r68_64, r68_67, q68_58 kf (er_ci hO), q68_61 kn (er_ci hO), nI_addL, oGF_is, WPo_some, List.getElem?_cons_succ, List.getElem?_cons_zero, kil_n, kil_i, kil_a, kil_u, kil_l, Option.toList_some, Option.toList_none, List.cons_append, List.nil_append, List.set_cons_succ, List.set_cons_zero, addm1, Nat.reduceAdd, List.length_cons, List.length_nil, Nat.reduceLT, not_true_eq_false, not_false_eq_true, if_true, if_false, or_self, and_self, true_and, and_true, or_true, true_or, false_or, or_false, false_and, and_false]
      exact ih
    | some j =>
      have hj := ho j rfl
      have ih := ih (some (.long (iL (mvd k (some j) ch t))))
      have kf2 := c_factor (E := E) (c := c + 1) (S := S) (fn := fn) (mn := nI n) (bd := nI b) (lo := iL L) (hi := iL H) (vl := vl) (oc := oc) (wi := wi) (sh := sh) (dl := dl) (OP := OP) hO hE h1 h4 rfl (s := nI j - nI t)
      rw [ii_sub (by omega) (by omega)] at kf2
      have e0 : iL (fac k ((j : Int) - t)) * iL ch = iL (mvd k (some j) ch t) := iL_mul _ _
      generalize hm : min i (n - k - 1) = m at *
      simp (disch := first | assumption | omega | decide | (simp only [List.length_cons, List.length_nil, Nat.reduceAdd, Nat.reduceLT]; done) | fail) only [r68_13, r68_14, r68_18, r68_21, r68_22, r68_23, r68_26, r68_27, r68_30, r68_31, r68_32, r68_34, r68_38, r68_39, r68_40, r68_42, r68_43, r68_44, r68_47, r68_49, r68_50, r68_52, r68_53, r68_54, r68_55, r68_57, r68_64, r68_67, q68_15 kl (er_ci hO), q68_35 kf2 (er_ci hO), q68_58 kf (er_ci hO), q68_61 kn (er_ci hO), hr19 hO, hr21 hO, gL, d1, onI, e0, e1, nI_clamp, nI_eqM, nI_leL, nI_Lle, nI_ltL, nI_Llt, nI_leE, nI_ltE, nI_addL, ifT, ifF, Nat.not_lt_zero, Nat.zero_le, oGF_is, WPo_some, List.getElem?_cons_succ, List.getElem?_cons_zero, kil_n, kil_i, kil_a, kil_u, kil_l, Option.toList_some, Option.toList_none, List.cons_append, List.nil_append, List.set_cons_succ, List.set_cons_zero, addm1, Nat.reduceAdd, List.length_cons, List.length_nil, Nat.reduceLT, not_true_eq_false, not_false_eq_true, if_true, if_false, or_self, and_self, true_and, and_true, or_true, true_or, false_or, or_false, false_and, and_false]
      exact ih
end EX7

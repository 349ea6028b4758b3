/-! Errata of the class: the fewest -/
/-- what errata answers, and what it keeps -/
noncomputable def erA (n k b : Nat) (V : Nat → Nat) (fn : Int32) (wi sh : Nat → Int32) (r fn' : Int32) (wi' sh' : Nat → Int32) : Prop :=
  (r = 0 ∧ smo n k b (vI V) ∧ fn' = 0 ∧ wi' = wi ∧ sh' = sh) ∨
  (r = 1 ∧ ¬ smo n k b (vI V) ∧ fn' = 1 ∧ ∃ i x, wi' = upd wi 0 (nI i) ∧ sh' = upd sh 0 x ∧ B1 n k b V i x.toInt) ∨
  (r = 2 ∧ ¬ smo n k b (vI V) ∧ (∀ i x, ¬ P1 n k b V i x) ∧ fn' = 2 ∧ ∃ i j x y, wi' = upd (upd wi 0 (nI i)) 1 (nI j) ∧ sh' = upd (upd sh 0 x) 1 y ∧ B2 n k b V i j x.toInt y.toInt) ∨
  (r = -1 ∧ ¬ smo n k b (vI V) ∧ (∀ i x, ¬ P1 n k b V i x) ∧ (∀ i j x y, ¬ P2 n k b V i j x y) ∧ fn' = fn ∧ wi' = wi ∧ sh' = sh)
section EXb
variable {E : aEnv} {c : Nat} {ah : aHp} {A : Nat → Nat} {S : Nat → aE} {fn : Int32} {lo hi : Int64} {vl oc wi sh : Nat → Int32} {dl : Nat → Int64} {OP : Nat → Nat → Int32} {n k b : Nat} {V : Nat → Nat}
theorem c_putTwo (hO : XO E ah A) (hE : ErE E) (h1 : 1 ≤ k) (h4 : k ≤ 4) (hn : n ≤ 20) (hkn : k < n) (hb : b ≤ 1000) (hL : erL n k V vl oc dl OP) : ∃ r fn' L H wi' sh', EV E (c + 4) 65 [.ref (A 19)] (oh E ah A (eS A S fn (nI n) (nI k) (nI b) lo hi vl oc wi sh dl OP)) (some (.int r)) (oh E ah A (eS A S fn' (nI n) (nI k) (nI b) L H vl oc wi' sh' dl OP)) ∧ ((r = 1 ∧ fn' = 2 ∧ ∃ i j x y, wi' = upd (upd wi 0 (nI i)) 1 (nI j) ∧ sh' = upd (upd sh 0 x) 1 y ∧ B2 n k b V i j x.toInt y.toInt) ∨ (r = 0 ∧ fn' = fn ∧ wi' = wi ∧ sh' = sh ∧ ∀ i j x y, ¬ P2 n k b V i j x y)) := by
  have hF := erL_F h1 h4 hL
  let Q : Option Value → aHp → Prop := fun r1 y => ∃ r fn' L H wi' sh', r1 = some (.int r) ∧ y = oh E ah A (eS A S fn' (nI n) (nI k) (nI b) L H vl oc wi' sh' dl OP) ∧ ((r = 1 ∧ fn' = 2 ∧ ∃ i j x y, wi' = upd (upd wi 0 (nI i)) 1 (nI j) ∧ sh' = upd (upd sh 0 x) 1 y ∧ B2 n k b V i j x.toInt y.toInt) ∨ (r = 0 ∧ fn' = fn ∧ wi' = wi ∧ sh' = sh ∧ ∀ i j x y, ¬ P2 n k b V i j x y))
  -- the inner loop
  have inner : ∀ i, i < n → (∀ i' j x y, i' < i → ¬ P2 n k b V i' j x y) → (∀ l2 lo hi, (∀ j x y, ¬ P2 n k b V i j x y) → WP E (c + 4) 65 48 [some (.ref (A 19)), some (.int (nI i)), l2] [] (oh E ah A (eS A S fn (nI n) (nI k) (nI b) lo hi vl oc wi sh dl OP)) Q) → ∀ z j lo hi, j + z = n → i < j → (∀ j' x y, j' < j → ¬ P2 n k b V i j' x y) → WP E (c + 4) 65 14 [some (.ref (A 19)), some (.int (nI i)), some (.int (nI j))] [] (oh E ah A (eS A S fn (nI n) (nI k) (nI b) lo hi vl oc wi sh dl OP)) Q := by
    intro i hi' hqi K z
    induction z with
    | zero =>
      intro j lo hi hz hij hq
      have K := K (some (.int (nI j))) lo hi (fun j' x y h => hq j' x y (by have := h.2.1; omega) h)
      rw [r65_14]
      simp (disch := first | assumption | omega | decide | (simp only [List.length_cons, List.length_nil, Nat.reduceAdd, Nat.reduceLT]; done) | fail) only [r65_15, r65_16, r65_19, hr19 hO, show n ≤ j by omega, oGF_is, WPo_some, List.getElem?_cons_succ, List.getElem?_cons_zero, kil_n, kil_i, kil_a, kil_u, kil_l, Option.toList_some, Option.toList_none, List.cons_append, List.nil_append, List.set_cons_succ, List.set_cons_zero, addm1, Nat.reduceAdd, List.length_cons, List.length_nil, Nat.reduceLT, nI_clamp, nI_toInt, nI_leL, nI_Lle, nI_ltL, nI_Llt, nI_eqL, nI_Leq, nI_leE, nI_ltE, nI_eqE, nI_eqM, nI_add, nI_addL, nI_Ladd, nI_mulL, nI_Lmul, pk_mul, pk_sub, nI_subL, nI_Lsub, i2l_nI, Int.toNat_natCast, Nat.not_lt_zero, Nat.zero_le, ifT, ifF, not_true_eq_false, not_false_eq_true, if_true, if_false, or_self, and_self, true_and, and_true, or_true, true_or, false_or, or_false, false_and, and_false]
      exact K
    | succ z ih =>
      intro j lo hi hz hij hq
      have hj : j < n := by omega
      obtain ⟨r, kr, hr⟩ := c_rough (E := E) (c := c + 2) (S := S) (fn := fn) (lo := lo) (hi := hi) (vl := vl) (oc := oc) (wi := wi) (sh := sh) (OP := OP) hO hE h1 h4 hn hb hF (o1 := some i) (o2 := some j) (fun q hq => by injection hq with hq; omega) (fun q hq => by injection hq with hq; omega)
      rw [show onI (some i) = nI i from rfl, show onI (some j) = nI j from rfl] at kr
      have skip : (∀ x y, ¬ P2 n k b V i j x y) → ∀ lo hi, WP E (c + 4) 65 14 [some (.ref (A 19)), some (.int (nI i)), some (.int (nI (j + 1)))] [] (oh E ah A (eS A S fn (nI n) (nI k) (nI b) lo hi vl oc wi sh dl OP)) Q := fun hh lo hi => ih (j + 1) lo hi (by omega) (by omega) (fun j' x y w => by
        by_cases e : j' = j
        · rw [e]; exact hh x y
        · exact hq j' x y (by omega))
      rcases hr with ⟨r1, R1⟩ | ⟨r0, R0⟩
      · subst r1
        have s := skip (fun x y h => ((sm2 h1 h4 (by omega)).mp h.2.2.2.2).1 R1) lo hi
        rw [r65_14]
        simp (disch := first | assumption | omega | decide | (simp only [List.length_cons, List.length_nil, Nat.reduceAdd, Nat.reduceLT]; done) | fail) only [r65_15, r65_16, r65_19, r65_22, r65_23, r65_24, r65_28, r65_42, r65_45, hr19 hO, q65_25 kr (er_ci hO), oGF_is, WPo_some, List.getElem?_cons_succ, List.getElem?_cons_zero, kil_n, kil_i, kil_a, kil_u, kil_l, Option.toList_some, Option.toList_none, List.cons_append, List.nil_append, List.set_cons_succ, List.set_cons_zero, addm1, Nat.reduceAdd, List.length_cons, List.length_nil, Nat.reduceLT, nI_clamp, nI_toInt, nI_leL, nI_Lle, nI_ltL, nI_Llt, nI_eqL, nI_Leq, nI_leE, nI_ltE, nI_eqE, nI_eqM, nI_add, nI_addL, nI_Ladd, nI_mulL, nI_Lmul, pk_mul, pk_sub, nI_subL, nI_Lsub, i2l_nI, Int.toNat_natCast, Nat.not_lt_zero, Nat.zero_le, ifT, ifF, not_true_eq_false, not_false_eq_true, if_true, if_false, or_self, and_self, true_and, and_true, or_true, true_or, false_or, or_false, false_and, and_false, show ¬ (1 : Int32) = 0 by decide]
        exact s
      · subst r0
        obtain ⟨r, fn', L, H, wi', sh', kp, hp⟩ := c_putPair (E := E) (c := c) (S := S) (fn := fn) (lo := lo) (hi := hi) (wi := wi) (sh := sh) hO hE h1 h4 hn hkn hb hL hij hj R0
        rcases hp with ⟨p1, p2, x, y, p3, p4, p5, p6⟩ | ⟨p1, p2, p3, p4, p5⟩
        · subst p1 p2 p3 p4
          rw [r65_14]
          simp (disch := first | assumption | omega | decide | (simp only [List.length_cons, List.length_nil, Nat.reduceAdd, Nat.reduceLT]; done) | fail) only [r65_15, r65_16, r65_19, r65_22, r65_23, r65_24, r65_28, r65_31, r65_32, r65_33, r65_37, r65_40, r65_41 (x := 0) (Or.inl rfl), r65_41 (x := 1) (Or.inr rfl), r65_41 (b2i_or _), hr19 hO, q65_25 kr (er_ci hO), q65_34 kp (er_ci hO), oGF_is, WPo_some, List.getElem?_cons_succ, List.getElem?_cons_zero, kil_n, kil_i, kil_a, kil_u, kil_l, Option.toList_some, Option.toList_none, List.cons_append, List.nil_append, List.set_cons_succ, List.set_cons_zero, addm1, Nat.reduceAdd, List.length_cons, List.length_nil, Nat.reduceLT, nI_clamp, nI_toInt, nI_leL, nI_Lle, nI_ltL, nI_Llt, nI_eqL, nI_Leq, nI_leE, nI_ltE, nI_eqE, nI_eqM, nI_add, nI_addL, nI_Ladd, nI_mulL, nI_Lmul, pk_mul, pk_sub, nI_subL, nI_Lsub, i2l_nI, Int.toNat_natCast, Nat.not_lt_zero, Nat.zero_le, ifT, ifF, not_true_eq_false, not_false_eq_true, if_true, if_false, or_self, and_self, true_and, and_true, or_true, true_or, false_or, or_false, false_and, and_false, show ¬ (1 : Int32) = 0 by decide]
          refine ⟨1, 2, L, H, _, _, rfl, rfl, Or.inl ⟨rfl, rfl, i, j, x, y, rfl, rfl, p5, fun i' j' x' y' h => ?_⟩⟩
          by_cases w1 : i' < i
          · exact absurd h (hqi i' j' x' y' w1)
          · by_cases w2 : i' = i
            · subst w2
              refine Or.inr ⟨rfl, ?_⟩
              by_cases w3 : j' < j
              · exact absurd h (hq j' x' y' w3)
              · by_cases w4 : j' = j
                · subst w4
                  exact Or.inr ⟨rfl, p6 x' y' h⟩
                · exact Or.inl (by omega)
            · exact Or.inl (by omega)
        · subst p1 p2 p3 p4
          have s := skip p5 L H
          rw [r65_14]
          simp (disch := first | assumption | omega | decide | (simp only [List.length_cons, List.length_nil, Nat.reduceAdd, Nat.reduceLT]; done) | fail) only [r65_15, r65_16, r65_19, r65_22, r65_23, r65_24, r65_28, r65_31, r65_32, r65_33, r65_37, r65_40, r65_41 (x := 0) (Or.inl rfl), r65_41 (x := 1) (Or.inr rfl), r65_41 (b2i_or _), r65_42, r65_45, hr19 hO, q65_25 kr (er_ci hO), q65_34 kp (er_ci hO), oGF_is, WPo_some, List.getElem?_cons_succ, List.getElem?_cons_zero, kil_n, kil_i, kil_a, kil_u, kil_l, Option.toList_some, Option.toList_none, List.cons_append, List.nil_append, List.set_cons_succ, List.set_cons_zero, addm1, Nat.reduceAdd, List.length_cons, List.length_nil, Nat.reduceLT, nI_clamp, nI_toInt, nI_leL, nI_Lle, nI_ltL, nI_Llt, nI_eqL, nI_Leq, nI_leE, nI_ltE, nI_eqE, nI_eqM, nI_add, nI_addL, nI_Ladd, nI_mulL, nI_Lmul, pk_mul, pk_sub, nI_subL, nI_Lsub, i2l_nI, Int.toNat_natCast, Nat.not_lt_zero, Nat.zero_le, ifT, ifF, not_true_eq_false, not_false_eq_true, if_true, if_false, or_self, and_self, true_and, and_true, or_true, true_or, false_or, or_false, false_and, and_false]
          exact s
  have outer : ∀ z i l2 lo hi, i + z = n → (∀ i' j x y, i' < i → ¬ P2 n k b V i' j x y) → WP E (c + 4) 65 2 [some (.ref (A 19)), some (.int (nI i)), l2] [] (oh E ah A (eS A S fn (nI n) (nI k) (nI b) lo hi vl oc wi sh dl OP)) Q := by
    intro z
    induction z with
    | zero =>
      intro i l2 lo hi hz hq
      rw [r65_2]
      simp (disch := first | assumption | omega | decide | (simp only [List.length_cons, List.length_nil, Nat.reduceAdd, Nat.reduceLT]; done) | fail) only [r65_3, r65_4, r65_7, r65_54, r65_55 (x := 0) (Or.inl rfl), r65_55 (x := 1) (Or.inr rfl), r65_55 (b2i_or _), hr19 hO, show n ≤ i by omega, oGF_is, WPo_some, List.getElem?_cons_succ, List.getElem?_cons_zero, kil_n, kil_i, kil_a, kil_u, kil_l, Option.toList_some, Option.toList_none, List.cons_append, List.nil_append, List.set_cons_succ, List.set_cons_zero, addm1, Nat.reduceAdd, List.length_cons, List.length_nil, Nat.reduceLT, nI_clamp, nI_toInt, nI_leL, nI_Lle, nI_ltL, nI_Llt, nI_eqL, nI_Leq, nI_leE, nI_ltE, nI_eqE, nI_eqM, nI_add, nI_addL, nI_Ladd, nI_mulL, nI_Lmul, pk_mul, pk_sub, nI_subL, nI_Lsub, i2l_nI, Int.toNat_natCast, Nat.not_lt_zero, Nat.zero_le, ifT, ifF, not_true_eq_false, not_false_eq_true, if_true, if_false, or_self, and_self, true_and, and_true, or_true, true_or, false_or, or_false, false_and, and_false]
      exact ⟨0, fn, lo, hi, wi, sh, rfl, rfl, Or.inr ⟨rfl, rfl, rfl, rfl, fun i' j x y h => hq i' j x y (by have := h.1; have := h.2.1; omega) h⟩⟩
    | succ z ih =>
      intro i l2 lo hi hz hq
      have l := inner i (by omega) hq (fun l2 lo hi hh => by
        have ih := ih (i + 1) l2 lo hi (by omega) (fun i' j x y w => by
          by_cases e : i' = i
          · rw [e]; exact hh j x y
          · exact hq i' j x y (by omega))
        simp (disch := first | assumption | omega | decide | (simp only [List.length_cons, List.length_nil, Nat.reduceAdd, Nat.reduceLT]; done) | fail) only [r65_48, r65_51, oGF_is, WPo_some, List.getElem?_cons_succ, List.getElem?_cons_zero, kil_n, kil_i, kil_a, kil_u, kil_l, Option.toList_some, Option.toList_none, List.cons_append, List.nil_append, List.set_cons_succ, List.set_cons_zero, addm1, Nat.reduceAdd, List.length_cons, List.length_nil, Nat.reduceLT, nI_clamp, nI_toInt, nI_leL, nI_Lle, nI_ltL, nI_Llt, nI_eqL, nI_Leq, nI_leE, nI_ltE, nI_eqE, nI_eqM, nI_add, nI_addL, nI_Ladd, nI_mulL, nI_Lmul, pk_mul, pk_sub, nI_subL, nI_Lsub, i2l_nI, Int.toNat_natCast, Nat.not_lt_zero, Nat.zero_le, ifT, ifF, not_true_eq_false, not_false_eq_true, if_true, if_false, or_self, and_self, true_and, and_true, or_true, true_or, false_or, or_false, false_and, and_false]
        exact ih) (n - (i + 1)) (i + 1) lo hi (by omega) (by omega) (fun j' x y w h => by have := h.1; omega)
      rw [r65_2]
      simp (disch := first | assumption | omega | decide | (simp only [List.length_cons, List.length_nil, Nat.reduceAdd, Nat.reduceLT]; done) | fail) only [r65_3, r65_4, r65_7, r65_10, r65_11, r65_12, r65_13, hr19 hO, oGF_is, WPo_some, List.getElem?_cons_succ, List.getElem?_cons_zero, kil_n, kil_i, kil_a, kil_u, kil_l, Option.toList_some, Option.toList_none, List.cons_append, List.nil_append, List.set_cons_succ, List.set_cons_zero, addm1, Nat.reduceAdd, List.length_cons, List.length_nil, Nat.reduceLT, nI_clamp, nI_toInt, nI_leL, nI_Lle, nI_ltL, nI_Llt, nI_eqL, nI_Leq, nI_leE, nI_ltE, nI_eqE, nI_eqM, nI_add, nI_addL, nI_Ladd, nI_mulL, nI_Lmul, pk_mul, pk_sub, nI_subL, nI_Lsub, i2l_nI, Int.toNat_natCast, Nat.not_lt_zero, Nat.zero_le, ifT, ifF, not_true_eq_false, not_false_eq_true, if_true, if_false, or_self, and_self, true_and, and_true, or_true, true_or, false_or, or_false, false_and, and_false]
      exact l
  obtain ⟨r1, x1, ⟨r, fn', L, H, wi', sh', e1, e2, e3⟩, w⟩ := WP.ex (outer n 0 none lo hi (by omega) (fun i' j x y h => absurd h (by omega)))
  subst e1 e2
  refine ⟨r, fn', L, H, wi', sh', e65 ?_, e3⟩
  simp (disch := first | assumption | omega | decide | (simp only [List.length_cons, List.length_nil, Nat.reduceAdd, Nat.reduceLT]; done) | fail) only [r65_0, r65_1, oGF_is, WPo_some, List.getElem?_cons_succ, List.getElem?_cons_zero, kil_n, kil_i, kil_a, kil_u, kil_l, Option.toList_some, Option.toList_none, List.cons_append, List.nil_append, List.set_cons_succ, List.set_cons_zero, addm1, Nat.reduceAdd, List.length_cons, List.length_nil, Nat.reduceLT]
  exact w
end EXb

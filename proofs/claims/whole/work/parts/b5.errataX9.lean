/-! Errata: what is smooth after a change; one value put right -/
noncomputable def vI (V : Nat → Nat) : Nat → Int := fun i => (V i : Int)
theorem sm1 {n k b : Nat} (h1 : 1 ≤ k) (h4 : k ≤ 4) {V : Nat → Int} {i : Nat} {x : Int} : smo n k b (stV V i x) ↔ (¬ Rgh n k b (df k V) (some i) none ∧ Gok n k b (df k V) i (x - V i)) := by
  have e := fun t => df_st (t := t) (V := V) (i := i) (x := x) h1 h4
  constructor
  · intro h
    refine ⟨?_, fun t t1 t2 t3 => ?_⟩
    · rintro ⟨t, t1, t2, -, t4⟩
      have t2 : i < t ∨ t + k < i := t2
      have := h t t1
      rw [e, fac_out (by omega), Int.zero_mul, Int.add_zero] at this
      omega
    · have := h t t1
      rw [e] at this
      exact this
  · rintro ⟨h, g⟩ t t1
    rw [e]
    by_cases y : i < t ∨ t + k < i
    · rw [fac_out (by omega), Int.zero_mul, Int.add_zero]
      by_cases z : (df k V t).natAbs ≤ b
      · exact z
      · exact absurd ⟨t, t1, y, trivial, by omega⟩ h
    · exact g t t1 (by omega) (by omega)
theorem sm2 {n k b : Nat} (h1 : 1 ≤ k) (h4 : k ≤ 4) {V : Nat → Int} {i j : Nat} (hij : i ≠ j) {x y : Int} : smo n k b (stV (stV V i x) j y) ↔ (¬ Rgh n k b (df k V) (some i) (some j) ∧ (∀ t, t + k < n → t ≤ i → i ≤ t + k → (j < t ∨ t + k < j) → (df k V t + fac k ((i : Int) - t) * (x - V i)).natAbs ≤ b) ∧ Gok n k b (fun t => df k V t + mvd k (some i) (x - V i) t) j (y - V j)) := by
  have e1 := fun t => df_st (t := t) (V := V) (i := i) (x := x) h1 h4
  have e2 := fun t => df_st (t := t) (V := stV V i x) (i := j) (x := y) h1 h4
  have ej : stV V i x j = V j := if_neg (fun z => hij z.symm)
  have e : ∀ t, df k (stV (stV V i x) j y) t = df k V t + fac k ((i : Int) - t) * (x - V i) + fac k ((j : Int) - t) * (y - V j) := fun t => by rw [e2, e1, ej]
  constructor
  · intro h
    refine ⟨?_, fun t t1 t2 t3 t4 => ?_, fun t t1 t2 t3 => ?_⟩
    · rintro ⟨t, t1, t2, t3, t4⟩
      have t2 : i < t ∨ t + k < i := t2
      have t3 : j < t ∨ t + k < j := t3
      have := h t t1
      rw [e, fac_out (s := (i : Int) - t) (by omega), fac_out (s := (j : Int) - t) (by omega), Int.zero_mul, Int.zero_mul, Int.add_zero, Int.add_zero] at this
      omega
    · have := h t t1
      rw [e, fac_out (s := (j : Int) - t) (by omega), Int.zero_mul, Int.add_zero] at this
      exact this
    · have := h t t1
      rw [e] at this
      exact this
  · rintro ⟨h, g1, g2⟩ t t1
    rw [e]
    by_cases yj : j < t ∨ t + k < j
    · rw [fac_out (s := (j : Int) - t) (by omega), Int.zero_mul, Int.add_zero]
      by_cases yi : i < t ∨ t + k < i
      · rw [fac_out (by omega), Int.zero_mul, Int.add_zero]
        by_cases z : (df k V t).natAbs ≤ b
        · exact z
        · exact absurd ⟨t, t1, yi, yj, by omega⟩ h
      · exact g1 t t1 (by omega) (by omega) yj
    · exact g2 t t1 (by omega) (by omega)
theorem sm0 {n k b : Nat} {V : Nat → Int} : smo n k b V ↔ ¬ Rgh n k b (df k V) none none := by
  constructor
  · rintro h ⟨t, t1, -, -, t4⟩
    have := h t t1
    omega
  · intro h t t1
    by_cases z : (df k V t).natAbs ≤ b
    · exact z
    · exact absurd ⟨t, t1, trivial, trivial, by omega⟩ h
/-- one value put right -/
noncomputable def P1 (n k b : Nat) (V : Nat → Nat) (i : Nat) (x : Int) : Prop := i < n ∧ opN (V i) x ∧ smo n k b (stV (vI V) i x)
noncomputable def P2 (n k b : Nat) (V : Nat → Nat) (i j : Nat) (x y : Int) : Prop := i < j ∧ j < n ∧ opN (V i) x ∧ opN (V j) y ∧ smo n k b (stV (stV (vI V) i x) j y)
noncomputable def B1 (n k b : Nat) (V : Nat → Nat) (i : Nat) (x : Int) : Prop := P1 n k b V i x ∧ ∀ i' x', P1 n k b V i' x' → i < i' ∨ (i = i' ∧ x ≤ x')
noncomputable def B2 (n k b : Nat) (V : Nat → Nat) (i j : Nat) (x y : Int) : Prop := P2 n k b V i j x y ∧ ∀ i' j' x' y', P2 n k b V i' j' x' y' → i < i' ∨ (i = i' ∧ (j < j' ∨ (j = j' ∧ (x < x' ∨ (x = x' ∧ y ≤ y')))))
section EX9
variable {E : aEnv} {c : Nat} {ah : aHp} {A : Nat → Nat} {S : Nat → aE} {fn : Int32} {lo hi : Int64} {vl oc wi sh : Nat → Int32} {dl : Nat → Int64} {OP : Nat → Nat → Int32} {n k b : Nat} {V : Nat → Nat}
/-- all is laid in -/
noncomputable def erL (n k : Nat) (V : Nat → Nat) (vl oc : Nat → Int32) (dl : Nat → Int64) (OP : Nat → Nat → Int32) : Prop := (∀ i, i < n → vl i = nI (V i) ∧ V i ≤ 99999999) ∧ (∀ t, t + k < n → dl t = iL (df k (vI V) t)) ∧ ∀ i, i < n → ∃ cc, oc i = nI cc ∧ cc ≤ 79 ∧ srS (fun q => (OP i q).toInt) cc (opN (V i))
theorem erL_F (h1 : 1 ≤ k) (h4 : k ≤ 4) (hL : erL n k V vl oc dl OP) : ∀ t, t + k < n → dl t = iL (df k (vI V) t) ∧ (df k (vI V) t).natAbs ≤ 1600000000 := fun t ht => ⟨hL.2.1 t ht, df_bd h1 h4 (fun i hi => by
  have := (hL.1 (t + i) (by omega)).2
  show 0 ≤ (V (t + i) : Int) ∧ (V (t + i) : Int) ≤ 99999999
  omega)⟩
theorem c_putOne (hO : XO E ah A) (hE : ErE E) (h1 : 1 ≤ k) (h4 : k ≤ 4) (hn : n ≤ 20) (hkn : k < n) (hb : b ≤ 1000) (hL : erL n k V vl oc dl OP) : ∃ r fn' L H wi' sh', EV E (c + 3) 64 [.ref (A 19)] (oh E ah A (eS A S fn (nI n) (nI k) (nI b) lo hi vl oc wi sh dl OP)) (some (.int r)) (oh E ah A (eS A S fn' (nI n) (nI k) (nI b) L H vl oc wi' sh' dl OP)) ∧ ((r = 1 ∧ fn' = 1 ∧ ∃ i x, wi' = upd wi 0 (nI i) ∧ sh' = upd sh 0 x ∧ B1 n k b V i x.toInt) ∨ (r = 0 ∧ fn' = fn ∧ wi' = wi ∧ sh' = sh ∧ ∀ i x, ¬ P1 n k b V i x)) := by
  have hF := erL_F h1 h4 hL
  let Q : Option Value → aHp → Prop := fun r1 y => ∃ r fn' L H wi' sh', r1 = some (.int r) ∧ y = oh E ah A (eS A S fn' (nI n) (nI k) (nI b) L H vl oc wi' sh' dl OP) ∧ ((r = 1 ∧ fn' = 1 ∧ ∃ i x, wi' = upd wi 0 (nI i) ∧ sh' = upd sh 0 x ∧ B1 n k b V i x.toInt) ∨ (r = 0 ∧ fn' = fn ∧ wi' = wi ∧ sh' = sh ∧ ∀ i x, ¬ P1 n k b V i x))
  have loop : ∀ z i l2 lo hi, i + z = n → (∀ i' x, i' < i → ¬ P1 n k b V i' x) → WP E (c + 3) 64 2 [some (.ref (A 19)), some (.int (nI i)), l2] [] (oh E ah A (eS A S fn (nI n) (nI k) (nI b) lo hi vl oc wi sh dl OP)) Q := by
    intro z
    induction z with
    | zero =>
      intro i l2 lo hi hz hq
      rw [r64_2]
      simp (disch := first | assumption | omega | decide | (simp only [List.length_cons, List.length_nil, Nat.reduceAdd, Nat.reduceLT]; done) | fail) only [r64_3, r64_4, r64_7, r64_55, r64_56 (x := 0) (Or.inl rfl), r64_56 (x := 1) (Or.inr rfl), r64_56 (b2i_or _), hr19 hO, show n ≤ i by omega, oGF_is, WPo_some, List.getElem?_cons_succ, List.getElem?_cons_zero, kil_n, kil_i, kil_a, kil_u, kil_l, Option.toList_some, Option.toList_none, List.cons_append, List.nil_append, List.set_cons_succ, List.set_cons_zero, addm1, Nat.reduceAdd, List.length_cons, List.length_nil, Nat.reduceLT, nI_clamp, nI_toInt, nI_leL, nI_Lle, nI_ltL, nI_Llt, nI_eqL, nI_Leq, nI_leE, nI_ltE, nI_eqE, nI_eqM, nI_add, nI_addL, nI_Ladd, nI_mulL, nI_Lmul, pk_mul, pk_sub, nI_subL, nI_Lsub, i2l_nI, Int.toNat_natCast, Nat.not_lt_zero, Nat.zero_le, ifT, ifF, not_true_eq_false, not_false_eq_true, if_true, if_false, or_self, and_self, true_and, and_true, or_true, true_or, false_or, or_false, false_and, and_false]
      exact ⟨0, fn, lo, hi, wi, sh, rfl, rfl, Or.inr ⟨rfl, rfl, rfl, rfl, fun i' x h => hq i' x (by have := h.1; omega) h⟩⟩
    | succ z ih =>
      intro i l2 lo hi hz hq
      have hi' : i < n := by omega
      obtain ⟨r, kr, hr⟩ := c_rough (E := E) (c := c + 1) (S := S) (fn := fn) (lo := lo) (hi := hi) (vl := vl) (oc := oc) (wi := wi) (sh := sh) (OP := OP) hO hE h1 h4 hn hb hF (o1 := some i) (o2 := none) (fun j hj => by injection hj with hj; omega) (fun j hj => nomatch hj)
      rw [show onI (some i) = nI i from rfl, show onI none = (-1 : Int32) from rfl] at kr
      have skip : (∀ x, ¬ P1 n k b V i x) → ∀ l2 lo hi, WP E (c + 3) 64 2 [some (.ref (A 19)), some (.int (nI (i + 1))), l2] [] (oh E ah A (eS A S fn (nI n) (nI k) (nI b) lo hi vl oc wi sh dl OP)) Q := fun hh l2 lo hi => ih (i + 1) l2 lo hi (by omega) (fun i' x h => by
        by_cases y : i' = i
        · rw [y]; exact hh x
        · exact hq i' x (by omega))
      rcases hr with ⟨r1, R1⟩ | ⟨r0, R0⟩
      · subst r1
        have s := skip (fun x h => ((sm1 h1 h4).mp h.2.2).1 R1) l2 lo hi
        rw [r64_2]
        simp (disch := first | assumption | omega | decide | (simp only [List.length_cons, List.length_nil, Nat.reduceAdd, Nat.reduceLT]; done) | fail) only [r64_3, r64_4, r64_7, r64_10, r64_11, r64_12, r64_16, r64_19, r64_49, r64_52, hr19 hO, q64_13 kr (er_ci hO), oGF_is, WPo_some, List.getElem?_cons_succ, List.getElem?_cons_zero, kil_n, kil_i, kil_a, kil_u, kil_l, Option.toList_some, Option.toList_none, List.cons_append, List.nil_append, List.set_cons_succ, List.set_cons_zero, addm1, Nat.reduceAdd, List.length_cons, List.length_nil, Nat.reduceLT, nI_clamp, nI_toInt, nI_leL, nI_Lle, nI_ltL, nI_Llt, nI_eqL, nI_Leq, nI_leE, nI_ltE, nI_eqE, nI_eqM, nI_add, nI_addL, nI_Ladd, nI_mulL, nI_Lmul, pk_mul, pk_sub, nI_subL, nI_Lsub, i2l_nI, Int.toNat_natCast, Nat.not_lt_zero, Nat.zero_le, ifT, ifF, not_true_eq_false, not_false_eq_true, if_true, if_false, or_self, and_self, true_and, and_true, or_true, true_or, false_or, or_false, false_and, and_false, show ¬ (1 : Int32) = 0 by decide]
        exact s
      · subst r0
        obtain ⟨cc, c1, c2, c3⟩ := hL.2.2 i hi'
        obtain ⟨v1, v2⟩ := hL.1 i hi'
        obtain ⟨L', H', best, kb, hbst⟩ := c_leastOption (E := E) (c := c) (S := S) (fn := fn) (wi := wi) (sh := sh) hO hE h1 h4 hn hkn hb hF hi' (o := none) (fun j hj => nomatch hj) (ch := 0) (by decide) v1 v2 c1 c2 c3 (lo := lo) (hi := hi)
        rw [show onI none = (-1 : Int32) from rfl, show iL 0 = (0 : Int64) from rfl] at kb
        have hbst := lst_iff hbst (G' := fun x => smo n k b (stV (vI V) i x)) (fun x hx => by
          rw [sm1 h1 h4]
          have e : (fun t => df k (vI V) t + mvd k none 0 t) = df k (vI V) := funext fun t => Int.add_zero _
          rw [e]
          exact ⟨fun g => ⟨R0, g⟩, fun g => g.2⟩)
        rcases hbst with ⟨b1, b2⟩ | ⟨b1, b2, b3⟩
        · subst b1
          have s := skip (fun x h => b2 x h.2.1 h.2.2) (some (.int (-1))) L' H'
          rw [r64_2]
          simp (disch := first | assumption | omega | decide | (simp only [List.length_cons, List.length_nil, Nat.reduceAdd, Nat.reduceLT]; done) | fail) only [r64_3, r64_4, r64_7, r64_10, r64_11, r64_12, r64_16, r64_19, r64_22, r64_23, r64_24, r64_25, r64_29, r64_30, r64_31, r64_32, r64_49, r64_52, hr19 hO, q64_13 kr (er_ci hO), q64_26 kb (er_ci hO), oGF_is, WPo_some, List.getElem?_cons_succ, List.getElem?_cons_zero, kil_n, kil_i, kil_a, kil_u, kil_l, Option.toList_some, Option.toList_none, List.cons_append, List.nil_append, List.set_cons_succ, List.set_cons_zero, addm1, Nat.reduceAdd, List.length_cons, List.length_nil, Nat.reduceLT, nI_clamp, nI_toInt, nI_leL, nI_Lle, nI_ltL, nI_Llt, nI_eqL, nI_Leq, nI_leE, nI_ltE, nI_eqE, nI_eqM, nI_add, nI_addL, nI_Ladd, nI_mulL, nI_Lmul, pk_mul, pk_sub, nI_subL, nI_Lsub, i2l_nI, Int.toNat_natCast, Nat.not_lt_zero, Nat.zero_le, ifT, ifF, not_true_eq_false, not_false_eq_true, if_true, if_false, or_self, and_self, true_and, and_true, or_true, true_or, false_or, or_false, false_and, and_false]
          exact s
        · have rg := op_rg v2 b1
          have nb : ¬ best = -1 := fun z => by
            rw [z] at rg
            exact absurd rg.1 (by decide)
          have kk := c_keep (E := E) (c := c + 2) (S := S) (fn := 1) (lo := L') (hi := H') (vl := vl) (oc := oc) (wi := wi) (sh := sh) (dl := dl) (OP := OP) (mn := nI n) (od := nI k) (bd := nI b) hO (j := 0) (by decide) (x := nI i) (y := best)
          rw [show nI 0 = (0 : Int32) from rfl] at kk
          rw [r64_2]
          simp (disch := first | assumption | omega | decide | (simp only [List.length_cons, List.length_nil, Nat.reduceAdd, Nat.reduceLT]; done) | fail) only [r64_3, r64_4, r64_7, r64_10, r64_11, r64_12, r64_16, r64_19, r64_22, r64_23, r64_24, r64_25, r64_29, r64_30, r64_31, r64_32, r64_35, r64_36, r64_37, r64_40, r64_41, r64_42, r64_43, r64_47, r64_48 (x := 0) (Or.inl rfl), r64_48 (x := 1) (Or.inr rfl), r64_48 (b2i_or _), hr19 hO, sr19 hO, q64_13 kr (er_ci hO), q64_26 kb (er_ci hO), q64_44 kk (er_ci hO), pf_3060, nb, oGF_is, WPo_some, List.getElem?_cons_succ, List.getElem?_cons_zero, kil_n, kil_i, kil_a, kil_u, kil_l, Option.toList_some, Option.toList_none, List.cons_append, List.nil_append, List.set_cons_succ, List.set_cons_zero, addm1, Nat.reduceAdd, List.length_cons, List.length_nil, Nat.reduceLT, nI_clamp, nI_toInt, nI_leL, nI_Lle, nI_ltL, nI_Llt, nI_eqL, nI_Leq, nI_leE, nI_ltE, nI_eqE, nI_eqM, nI_add, nI_addL, nI_Ladd, nI_mulL, nI_Lmul, pk_mul, pk_sub, nI_subL, nI_Lsub, i2l_nI, Int.toNat_natCast, Nat.not_lt_zero, Nat.zero_le, ifT, ifF, not_true_eq_false, not_false_eq_true, if_true, if_false, or_self, and_self, true_and, and_true, or_true, true_or, false_or, or_false, false_and, and_false]
          refine ⟨1, 1, L', H', upd wi 0 (nI i), upd sh 0 best, rfl, rfl, Or.inl ⟨rfl, rfl, i, best, rfl, rfl, ⟨hi', b1, b2⟩, fun i' x' h => ?_⟩⟩
          by_cases w : i' < i
          · exact absurd h (hq i' x' w)
          · by_cases w2 : i' = i
            · subst w2
              exact Or.inr ⟨rfl, b3 x' h.2.1 h.2.2⟩
            · exact Or.inl (by omega)
  obtain ⟨r1, x1, ⟨r, fn', L, H, wi', sh', e1, e2, e3⟩, w⟩ := WP.ex (loop n 0 none lo hi (by omega) (fun i' x h => absurd h (by omega)))
  subst e1 e2
  refine ⟨r, fn', L, H, wi', sh', e64 ?_, e3⟩
  simp (disch := first | assumption | omega | decide | (simp only [List.length_cons, List.length_nil, Nat.reduceAdd, Nat.reduceLT]; done) | fail) only [r64_0, r64_1, oGF_is, WPo_some, List.getElem?_cons_succ, List.getElem?_cons_zero, kil_n, kil_i, kil_a, kil_u, kil_l, Option.toList_some, Option.toList_none, List.cons_append, List.nil_append, List.set_cons_succ, List.set_cons_zero, addm1, Nat.reduceAdd, List.length_cons, List.length_nil, Nat.reduceLT]
  exact w
end EX9

/-! Errata of the class: two values put right -/
section EXa
variable {E : aEnv} {c : Nat} {ah : aHp} {A : Nat → Nat} {S : Nat → aE} {fn : Int32} {lo hi : Int64} {vl oc wi sh : Nat → Int32} {dl : Nat → Int64} {OP : Nat → Nat → Int32} {n k b : Nat} {V : Nat → Nat}
theorem l_pp1 (hO : XO E ah A) (hE : ErE E) (h1 : 1 ≤ k) (h4 : k ≤ 4) (hn : n ≤ 20) (hkn : k < n) (hb : b ≤ 1000) {F : Nat → Int} (hF : ∀ t, t + k < n → dl t = iL (F t) ∧ (F t).natAbs ≤ 1600000000) {i j : Nat} (hi' : i < n) (hj : j < n) {Q : Option Value → aHp → Prop} : ∀ z t L H, t + z = min i (n - k - 1) + 1 → i - k ≤ t → L.natAbs ≤ 1000000000000 → H.natAbs ≤ 1000000000000 → (∀ L' H', L'.natAbs ≤ 1000000000000 → H'.natAbs ≤ 1000000000000 → (∀ x, (L' ≤ x ∧ x ≤ H') ↔ ((L ≤ x ∧ x ≤ H) ∧ ∀ q, t ≤ q → q ≤ min i (n - k - 1) → (j < q ∨ q + k < j) → (F q + fac k ((i : Int) - q) * x).natAbs ≤ b)) → WP E (c + 2) 66 54 [some (.ref (A 19)), some (.int (nI i)), some (.int (nI j)), some (.int (nI (min i (n - k - 1) + 1))), none, none, none, none, none, none] [] (oh E ah A (eS A S fn (nI n) (nI k) (nI b) (iL L') (iL H') vl oc wi sh dl OP)) Q) → WP E (c + 2) 66 10 [some (.ref (A 19)), some (.int (nI i)), some (.int (nI j)), some (.int (nI t)), none, none, none, none, none, none] [] (oh E ah A (eS A S fn (nI n) (nI k) (nI b) (iL L) (iL H) vl oc wi sh dl OP)) Q
  | 0, t, L, H, hz, hf, hL, hH, K => by
    have K := K L H hL hH (fun x => ⟨fun z => ⟨z, fun q q1 q2 => absurd q2 (by omega)⟩, fun z => z.1⟩)
    have kl := c_last (E := E) (c := c) (S := S) (fn := fn) (bd := nI b) (lo := iL L) (hi := iL H) (vl := vl) (oc := oc) (wi := wi) (sh := sh) (dl := dl) (OP := OP) hO hi' hn hkn
    rw [show t = min i (n - k - 1) + 1 by omega, r66_10]
    generalize hm : min i (n - k - 1) = m at *
    simp (disch := first | assumption | omega | decide | (simp only [List.length_cons, List.length_nil, Nat.reduceAdd, Nat.reduceLT]; done) | fail) only [r66_11, r66_12, r66_16, q66_13 kl (er_ci hO), oGF_is, WPo_some, List.getElem?_cons_succ, List.getElem?_cons_zero, kil_n, kil_i, kil_a, kil_u, kil_l, Option.toList_some, Option.toList_none, List.cons_append, List.nil_append, List.set_cons_succ, List.set_cons_zero, addm1, Nat.reduceAdd, List.length_cons, List.length_nil, Nat.reduceLT, nI_clamp, nI_toInt, nI_leL, nI_Lle, nI_ltL, nI_Llt, nI_eqL, nI_Leq, nI_leE, nI_ltE, nI_eqE, nI_eqM, nI_add, nI_addL, nI_Ladd, nI_mulL, nI_Lmul, pk_mul, pk_sub, nI_subL, nI_Lsub, i2l_nI, Int.toNat_natCast, Nat.not_lt_zero, Nat.zero_le, ifT, ifF, not_true_eq_false, not_false_eq_true, if_true, if_false, or_self, and_self, true_and, and_true, or_true, true_or, false_or, or_false, false_and, and_false]
    exact K
  | z + 1, t, L, H, hz, hf, hL, hH, K => by
    have ht : t + k < n := by omega
    obtain ⟨d1, d2⟩ := hF t ht
    have cc0 : fac k ((i : Int) - t) ≠ 0 := fun z => by
      rw [fac_0 h1 h4] at z
      omega
    have cc6 := fac_le (s := (i : Int) - t) h1 h4
    have cj6 := fac_le (s := (j : Int) - t) h1 h4
    have kn := c_narrow (E := E) (c := c) (S := S) (fn := fn) (n := n) (k := k) (vl := vl) (oc := oc) (wi := wi) (sh := sh) (dl := dl) (OP := OP) hO hb (L := L) (H := H) (D := F t) cc0 cc6 (by omega) hL hH
    obtain ⟨b1, b2, -⟩ := nar_bd (b := b) (L := L) (H := H) (D := F t) cc0 hb (by omega) hL hH
    have kl := c_last (E := E) (c := c) (S := S) (fn := fn) (bd := nI b) (lo := iL L) (hi := iL H) (vl := vl) (oc := oc) (wi := wi) (sh := sh) (dl := dl) (OP := OP) hO hi' hn hkn
    have kf := fun q : Nat => c_factor (E := E) (c := c + 1) (S := S) (fn := fn) (mn := nI n) (bd := nI b) (lo := iL L) (hi := iL H) (vl := vl) (oc := oc) (wi := wi) (sh := sh) (dl := dl) (OP := OP) hO hE h1 h4 rfl (s := nI q - nI t)
    have kfi := kf i
    have kfj := kf j
    rw [ii_sub (by omega) (by omega)] at kfi kfj
    have z0 : (iL (fac k ((j : Int) - t)) = 0) = (j < t ∨ t + k < j) := by
      rw [iL_0, iL_eq (by omega) (by omega) (by omega) (by omega), fac_0 h1 h4]
      apply propext
      omega
    have tl : ¬ min i (n - k - 1) < t := by omega
    rw [r66_10]
    by_cases y : j < t ∨ t + k < j
    · have ih := l_pp1 hO hE h1 h4 hn hkn hb hF hi' hj (Q := Q) z (t + 1) (nLo b L (F t) (fac k ((i : Int) - t))) (nHi b H (F t) (fac k ((i : Int) - t))) (by omega) (by omega) b1 b2 (fun L' H' q1 q2 q3 => K L' H' q1 q2 (fun x => by
        rw [q3 x, nar_iff cc0]
        constructor
        · rintro ⟨⟨p1, p2⟩, p3⟩
          refine ⟨p1, fun q w1 w2 w3 => ?_⟩
          by_cases y : q = t
          · rw [y]; exact p2
          · exact p3 q (by omega) w2 w3
        · rintro ⟨p1, p2⟩
          exact ⟨⟨p1, p2 t (by omega) (by omega) y⟩, fun q w1 w2 w3 => p2 q (by omega) w2 w3⟩))
      have z1 : iL (fac k ((j : Int) - t)) = 0 := by rw [z0]; exact y
      generalize hm : min i (n - k - 1) = m at *
      simp (disch := first | assumption | omega | decide | (simp only [List.length_cons, List.length_nil, Nat.reduceAdd, Nat.reduceLT]; done) | fail) only [r66_11, r66_12, r66_16, r66_19, r66_20, r66_21, r66_22, r66_26, r66_27, r66_28, r66_31, r66_32, r66_33, r66_36, r66_37, r66_38, r66_39, r66_40, r66_41, r66_48, r66_51, q66_13 kl (er_ci hO), q66_23 kfj (er_ci hO), q66_42 kfi (er_ci hO), q66_45 kn (er_ci hO), hr19 hO, hr21 hO, gL, d1, lg_cmp_eq, eq_true z1, nI_clamp, nI_leL, nI_Lle, nI_ltL, nI_Llt, nI_leE, nI_ltE, nI_addL, ifT, ifF, Nat.not_lt_zero, Nat.zero_le, oGF_is, WPo_some, List.getElem?_cons_succ, List.getElem?_cons_zero, kil_n, kil_i, kil_a, kil_u, kil_l, Option.toList_some, Option.toList_none, List.cons_append, List.nil_append, List.set_cons_succ, List.set_cons_zero, addm1, Nat.reduceAdd, List.length_cons, List.length_nil, Nat.reduceLT, not_true_eq_false, not_false_eq_true, if_true, if_false, or_self, and_self, true_and, and_true, or_true, true_or, false_or, or_false, false_and, and_false]
      exact ih
    · have ih := l_pp1 hO hE h1 h4 hn hkn hb hF hi' hj (Q := Q) z (t + 1) L H (by omega) (by omega) hL hH (fun L' H' q1 q2 q3 => K L' H' q1 q2 (fun x => by
        rw [q3 x]
        constructor
        · rintro ⟨p1, p3⟩
          refine ⟨p1, fun q w1 w2 w3 => ?_⟩
          by_cases y' : q = t
          · rw [y'] at w3; exact absurd w3 y
          · exact p3 q (by omega) w2 w3
        · rintro ⟨p1, p2⟩
          exact ⟨p1, fun q w1 w2 w3 => p2 q (by omega) w2 w3⟩))
      have z1 : ¬ iL (fac k ((j : Int) - t)) = 0 := by rw [z0]; exact y
      generalize hm : min i (n - k - 1) = m at *
      simp (disch := first | assumption | omega | decide | (simp only [List.length_cons, List.length_nil, Nat.reduceAdd, Nat.reduceLT]; done) | fail) only [r66_11, r66_12, r66_16, r66_19, r66_20, r66_21, r66_22, r66_26, r66_27, r66_28, r66_48, r66_51, q66_13 kl (er_ci hO), q66_23 kfj (er_ci hO), lg_cmp_eq, z1, nI_clamp, nI_leL, nI_Lle, nI_ltL, nI_Llt, nI_leE, nI_ltE, nI_addL, ifT, ifF, Nat.not_lt_zero, Nat.zero_le, oGF_is, WPo_some, List.getElem?_cons_succ, List.getElem?_cons_zero, kil_n, kil_i, kil_a, kil_u, kil_l, Option.toList_some, Option.toList_none, List.cons_append, List.nil_append, List.set_cons_succ, List.set_cons_zero, addm1, Nat.reduceAdd, List.length_cons, List.length_nil, Nat.reduceLT, not_true_eq_false, not_false_eq_true, if_true, if_false, or_self, and_self, true_and, and_true, or_true, true_or, false_or, or_false, false_and, and_false]
      exact ih
theorem c_putPair (hO : XO E ah A) (hE : ErE E) (h1 : 1 ≤ k) (h4 : k ≤ 4) (hn : n ≤ 20) (hkn : k < n) (hb : b ≤ 1000) (hL : erL n k V vl oc dl OP) {i j : Nat} (hij : i < j) (hj : j < n) (hR : ¬ Rgh n k b (df k (vI V)) (some i) (some j)) : ∃ r fn' L H wi' sh', EV E (c + 3) 66 [.ref (A 19), .int (nI i), .int (nI j)] (oh E ah A (eS A S fn (nI n) (nI k) (nI b) lo hi vl oc wi sh dl OP)) (some (.int r)) (oh E ah A (eS A S fn' (nI n) (nI k) (nI b) L H vl oc wi' sh' dl OP)) ∧ ((r = 1 ∧ fn' = 2 ∧ ∃ x y, wi' = upd (upd wi 0 (nI i)) 1 (nI j) ∧ sh' = upd (upd sh 0 x) 1 y ∧ P2 n k b V i j x.toInt y.toInt ∧ ∀ x' y', P2 n k b V i j x' y' → x.toInt < x' ∨ (x.toInt = x' ∧ y.toInt ≤ y')) ∨ (r = 0 ∧ fn' = fn ∧ wi' = wi ∧ sh' = sh ∧ ∀ x y, ¬ P2 n k b V i j x y)) := by
  have hF := erL_F h1 h4 hL
  have hi' : i < n := by omega
  obtain ⟨ci, ci1, ci2, ci3⟩ := hL.2.2 i hi'
  obtain ⟨cj, cj1, cj2, cj3⟩ := hL.2.2 j hj
  obtain ⟨vi1, vi2⟩ := hL.1 i hi'
  obtain ⟨vj1, vj2⟩ := hL.1 j hj
  have hi20 : i < 20 := by omega
  let Q : Option Value → aHp → Prop := fun r1 y => ∃ r fn' L H wi' sh', r1 = some (.int r) ∧ y = oh E ah A (eS A S fn' (nI n) (nI k) (nI b) L H vl oc wi' sh' dl OP) ∧ ((r = 1 ∧ fn' = 2 ∧ ∃ x y, wi' = upd (upd wi 0 (nI i)) 1 (nI j) ∧ sh' = upd (upd sh 0 x) 1 y ∧ P2 n k b V i j x.toInt y.toInt ∧ ∀ x' y', P2 n k b V i j x' y' → x.toInt < x' ∨ (x.toInt = x' ∧ y.toInt ≤ y')) ∨ (r = 0 ∧ fn' = fn ∧ wi' = wi ∧ sh' = sh ∧ ∀ x y, ¬ P2 n k b V i j x y))
  have eV : (nI (V i)).toInt64 = iL (V i) := iL_nI (by omega)
  -- what is asked of both
  have iff2 : ∀ x y, P2 n k b V i j x y ↔ (opN (V i) x ∧ opN (V j) y ∧ (∀ t, t + k < n → t ≤ i → i ≤ t + k → (j < t ∨ t + k < j) → (df k (vI V) t + fac k ((i : Int) - t) * (x - V i)).natAbs ≤ b) ∧ Gok n k b (fun t => df k (vI V) t + mvd k (some i) (x - V i) t) j (y - V j)) := by
    intro x y
    unfold P2
    rw [sm2 h1 h4 (by omega)]
    exact ⟨fun h => ⟨h.2.2.1, h.2.2.2.1, h.2.2.2.2.2.1, h.2.2.2.2.2.2⟩, fun h => ⟨hij, hj, h.1, h.2.1, hR, h.2.2.1, h.2.2.2⟩⟩
  have main := l_pp1 (E := E) (c := c + 1) (S := S) (fn := fn) (vl := vl) (oc := oc) (wi := wi) (sh := sh) (OP := OP) hO hE h1 h4 hn hkn hb hF hi' hj (Q := Q) (min i (n - k - 1) + 1 - (i - k)) (i - k) (-99999999) 99999999 (by omega) (by omega) (by decide) (by decide) (fun L0 H0 q1 q2 q3 => by
    have inn : ∀ x, opN (V i) x → ((L0 ≤ x - V i ∧ x - V i ≤ H0) ↔ ∀ t, t + k < n → t ≤ i → i ≤ t + k → (j < t ∨ t + k < j) → (df k (vI V) t + fac k ((i : Int) - t) * (x - V i)).natAbs ≤ b) := by
      intro x hx
      have rg := op_rg vi2 hx
      rw [q3]
      constructor
      · rintro ⟨-, p2⟩ t t1 t2 t3 t4
        exact p2 t (by omega) (by omega) t4
      · intro p
        exact ⟨by omega, fun q w1 w2 w3 => p q (by omega) (by omega) (by omega) w3⟩
    have loop : ∀ z o l8 l9 lo hi, o + z = ci → (∀ q y, q < o → ¬ P2 n k b V i j (OP i q).toInt y) → WP E (c + 3) 66 84 [some (.ref (A 19)), some (.int (nI i)), some (.int (nI j)), some (.long (iL ((V i : Int) + L0))), none, some (.long (iL ((V i : Int) + H0))), none, some (.int (nI o)), l8, l9] [] (oh E ah A (eS A S fn (nI n) (nI k) (nI b) lo hi vl oc wi sh dl OP)) Q := by
      intro z
      induction z with
      | zero =>
        intro o l8 l9 lo hi hz hq
        rw [show o = ci by omega] at hq ⊢
        rw [r66_84]
        simp (disch := first | assumption | omega | decide | (simp only [List.length_cons, List.length_nil, Nat.reduceAdd, Nat.reduceLT]; done) | fail) only [r66_86, r66_87, r66_90, r66_91, r66_92, r66_179, r66_180 (x := 0) (Or.inl rfl), r66_180 (x := 1) (Or.inr rfl), r66_180 (b2i_or _), hr19 hO, hr43 hO, gI, ci1, oGF_is, WPo_some, List.getElem?_cons_succ, List.getElem?_cons_zero, kil_n, kil_i, kil_a, kil_u, kil_l, Option.toList_some, Option.toList_none, List.cons_append, List.nil_append, List.set_cons_succ, List.set_cons_zero, addm1, Nat.reduceAdd, List.length_cons, List.length_nil, Nat.reduceLT, nI_clamp, nI_toInt, nI_leL, nI_Lle, nI_ltL, nI_Llt, nI_eqL, nI_Leq, nI_leE, nI_ltE, nI_eqE, nI_eqM, nI_add, nI_addL, nI_Ladd, nI_mulL, nI_Lmul, pk_mul, pk_sub, nI_subL, nI_Lsub, i2l_nI, Int.toNat_natCast, Nat.not_lt_zero, Nat.zero_le, ifT, ifF, not_true_eq_false, not_false_eq_true, if_true, if_false, or_self, and_self, true_and, and_true, or_true, true_or, false_or, or_false, false_and, and_false]
        refine ⟨0, fn, lo, hi, wi, sh, rfl, rfl, Or.inr ⟨rfl, rfl, rfl, rfl, fun x y h => ?_⟩⟩
        obtain ⟨q, w1, w2⟩ := (ci3.2 x).mp h.2.2.1
        have w2 : (OP i q).toInt = x := w2
        rw [← w2] at h
        exact hq q y w1 h
      | succ z ih =>
        intro o l8 l9 lo hi hz hq
        have mem : opN (V i) (OP i o).toInt := (ci3.2 _).mpr ⟨o, by omega, rfl⟩
        have rg := op_rg vi2 mem
        have eO := i2l_iL (OP i o)
        have c1 : (iL (OP i o).toInt < iL ((V i : Int) + L0)) = ((OP i o).toInt < (V i : Int) + L0) := iL_lt (by omega) (by omega) (by omega) (by omega)
        have c2 : (iL (OP i o).toInt ≤ iL ((V i : Int) + H0)) = ((OP i o).toInt ≤ (V i : Int) + H0) := iL_le (by omega) (by omega) (by omega) (by omega)
        have skip : (∀ y, ¬ P2 n k b V i j (OP i o).toInt y) → ∀ l8 l9 lo hi, WP E (c + 3) 66 84 [some (.ref (A 19)), some (.int (nI i)), some (.int (nI j)), some (.long (iL ((V i : Int) + L0))), none, some (.long (iL ((V i : Int) + H0))), none, some (.int (nI (o + 1))), l8, l9] [] (oh E ah A (eS A S fn (nI n) (nI k) (nI b) lo hi vl oc wi sh dl OP)) Q := fun hh l8 l9 lo hi => ih (o + 1) l8 l9 lo hi (by omega) (fun q y w => by
          by_cases e : q = o
          · rw [e]; exact hh y
          · exact hq q y (by omega))
        by_cases yin : L0 ≤ (OP i o).toInt - V i ∧ (OP i o).toInt - V i ≤ H0
        · have g1 := (inn _ mem).mp yin
          have n1 : ¬ (OP i o).toInt < (V i : Int) + L0 := by omega
          have n2 : (OP i o).toInt ≤ (V i : Int) + H0 := by omega
          have dI : (OP i o - nI (V i) : Int32).toInt = (OP i o).toInt - V i := by
            rw [Int32.toInt_sub, nI_toInt (by omega), Int.bmod_eq_of_le (by omega) (by omega)]
          have eC : (OP i o - nI (V i) : Int32).toInt64 = iL ((OP i o).toInt - V i) := by rw [i2l_iL, dI]
          obtain ⟨L', H', best, kb, hbst⟩ := c_leastOption (E := E) (c := c) (S := S) (fn := fn) (wi := wi) (sh := sh) hO hE h1 h4 hn hkn hb hF hj (o := some i) (fun q hq => by injection hq with hq; omega) (ch := (OP i o).toInt - V i) (by omega) vj1 vj2 cj1 cj2 cj3 (lo := lo) (hi := hi)
          rw [show onI (some i) = nI i from rfl] at kb
          rcases hbst with ⟨b1, b2⟩ | ⟨b1, b2, b3⟩
          · subst b1
            have s := skip (fun y h => by
              rw [iff2] at h
              exact b2 y h.2.1 h.2.2.2) (some (.int (OP i o))) (some (.int (-1))) L' H'
            rw [r66_84]
            simp (disch := first | assumption | omega | decide | (simp only [List.length_cons, List.length_nil, Nat.reduceAdd, Nat.reduceLT]; done) | fail) only [r66_86, r66_87, r66_90, r66_91, r66_92, r66_95, r66_96, r66_99, r66_100, r66_101, r66_103, r66_104, r66_106, r66_108, r66_109, r66_110, r66_111, r66_114, r66_116, r66_117, r66_119, r66_120, r66_126, r66_127, r66_128, r66_129, r66_131, r66_132, r66_135, r66_136, r66_137, r66_138, r66_142, r66_144, r66_146, r66_147, r66_173, r66_176, hr19 hO, hr20 hO, hr43 hO, hr23 hO hi20, gA_row hO hi20, gI, ci1, vi1, eO, eC, lg_cmp_lt, lg_cmp_le, c1, c2, n1, n2, q66_139 kb (er_ci hO), oGF_is, WPo_some, List.getElem?_cons_succ, List.getElem?_cons_zero, kil_n, kil_i, kil_a, kil_u, kil_l, Option.toList_some, Option.toList_none, List.cons_append, List.nil_append, List.set_cons_succ, List.set_cons_zero, addm1, Nat.reduceAdd, List.length_cons, List.length_nil, Nat.reduceLT, nI_clamp, nI_toInt, nI_leL, nI_Lle, nI_ltL, nI_Llt, nI_eqL, nI_Leq, nI_leE, nI_ltE, nI_eqE, nI_eqM, nI_add, nI_addL, nI_Ladd, nI_mulL, nI_Lmul, pk_mul, pk_sub, nI_subL, nI_Lsub, i2l_nI, Int.toNat_natCast, Nat.not_lt_zero, Nat.zero_le, ifT, ifF, not_true_eq_false, not_false_eq_true, if_true, if_false, or_self, and_self, true_and, and_true, or_true, true_or, false_or, or_false, false_and, and_false]
            exact s
          · have rgb := op_rg vj2 b1
            have nb : ¬ best = -1 := fun z => by
              rw [z] at rgb
              exact absurd rgb.1 (by decide)
            have kk := c_keep (E := E) (c := c + 2) (S := S) (fn := 2) (lo := L') (hi := H') (vl := vl) (oc := oc) (wi := wi) (sh := sh) (dl := dl) (OP := OP) (mn := nI n) (od := nI k) (bd := nI b) hO (j := 0) (by decide) (x := nI i) (y := OP i o)
            have kk2 := c_keep (E := E) (c := c + 2) (S := S) (fn := 2) (lo := L') (hi := H') (vl := vl) (oc := oc) (wi := upd wi 0 (nI i)) (sh := upd sh 0 (OP i o)) (dl := dl) (OP := OP) (mn := nI n) (od := nI k) (bd := nI b) hO (j := 1) (by decide) (x := nI j) (y := best)
            rw [show nI 0 = (0 : Int32) from rfl] at kk
            rw [show nI 1 = (1 : Int32) from rfl] at kk2
            rw [r66_84]
            simp (disch := first | assumption | omega | decide | (simp only [List.length_cons, List.length_nil, Nat.reduceAdd, Nat.reduceLT]; done) | fail) only [r66_86, r66_87, r66_90, r66_91, r66_92, r66_95, r66_96, r66_99, r66_100, r66_101, r66_103, r66_104, r66_106, r66_108, r66_109, r66_110, r66_111, r66_114, r66_116, r66_117, r66_119, r66_120, r66_126, r66_127, r66_128, r66_129, r66_131, r66_132, r66_135, r66_136, r66_137, r66_138, r66_142, r66_144, r66_146, r66_147, r66_150, r66_151, r66_152, r66_155, r66_156, r66_157, r66_158, r66_163, r66_164, r66_165, r66_166, r66_171, r66_172 (x := 0) (Or.inl rfl), r66_172 (x := 1) (Or.inr rfl), r66_172 (b2i_or _), hr19 hO, sr19 hO, hr20 hO, hr43 hO, hr23 hO hi20, gA_row hO hi20, gI, ci1, vi1, eO, eC, lg_cmp_lt, lg_cmp_le, c1, c2, n1, n2, q66_139 kb (er_ci hO), q66_160 kk (er_ci hO), q66_168 kk2 (er_ci hO), pf_3060, nb, oGF_is, WPo_some, List.getElem?_cons_succ, List.getElem?_cons_zero, kil_n, kil_i, kil_a, kil_u, kil_l, Option.toList_some, Option.toList_none, List.cons_append, List.nil_append, List.set_cons_succ, List.set_cons_zero, addm1, Nat.reduceAdd, List.length_cons, List.length_nil, Nat.reduceLT, nI_clamp, nI_toInt, nI_leL, nI_Lle, nI_ltL, nI_Llt, nI_eqL, nI_Leq, nI_leE, nI_ltE, nI_eqE, nI_eqM, nI_add, nI_addL, nI_Ladd, nI_mulL, nI_Lmul, pk_mul, pk_sub, nI_subL, nI_Lsub, i2l_nI, Int.toNat_natCast, Nat.not_lt_zero, Nat.zero_le, ifT, ifF, not_true_eq_false, not_false_eq_true, if_true, if_false, or_self, and_self, true_and, and_true, or_true, true_or, false_or, or_false, false_and, and_false]
            refine ⟨1, 2, L', H', upd (upd wi 0 (nI i)) 1 (nI j), upd (upd sh 0 (OP i o)) 1 best, rfl, rfl, Or.inl ⟨rfl, rfl, OP i o, best, rfl, rfl, (iff2 _ _).mpr ⟨mem, b1, g1, b2⟩, fun x' y' h => ?_⟩⟩
            obtain ⟨q, w1, w2⟩ := (ci3.2 x').mp h.2.2.1
            have w2 : (OP i q).toInt = x' := w2
            by_cases wq : q < o
            · rw [← w2] at h
              exact absurd h (hq q y' wq)
            · have le : (OP i o).toInt ≤ x' := by
                rw [← w2]
                by_cases e : q = o
                · rw [e]; exact Int.le_refl _
                · exact ci3.1 o q (by omega) w1
              by_cases eq : (OP i o).toInt = x'
              · refine Or.inr ⟨eq, ?_⟩
                rw [← eq] at h
                rw [iff2] at h
                exact b3 y' h.2.1 h.2.2.2
              · exact Or.inl (by omega)
        · have s := fun l8 l9 => skip (fun y h => by
            rw [iff2] at h
            exact yin ((inn _ mem).mpr h.2.2.1)) l8 l9 lo hi
          rw [r66_84]
          by_cases n1 : (OP i o).toInt < (V i : Int) + L0
          · simp (disch := first | assumption | omega | decide | (simp only [List.length_cons, List.length_nil, Nat.reduceAdd, Nat.reduceLT]; done) | fail) only [r66_86, r66_87, r66_90, r66_91, r66_92, r66_95, r66_96, r66_99, r66_100, r66_101, r66_103, r66_104, r66_106, r66_108, r66_109, r66_110, r66_111, r66_173, r66_176, hr19 hO, hr43 hO, hr23 hO hi20, gA_row hO hi20, gI, ci1, eO, lg_cmp_lt, c1, n1, oGF_is, WPo_some, List.getElem?_cons_succ, List.getElem?_cons_zero, kil_n, kil_i, kil_a, kil_u, kil_l, Option.toList_some, Option.toList_none, List.cons_append, List.nil_append, List.set_cons_succ, List.set_cons_zero, addm1, Nat.reduceAdd, List.length_cons, List.length_nil, Nat.reduceLT, nI_clamp, nI_toInt, nI_leL, nI_Lle, nI_ltL, nI_Llt, nI_eqL, nI_Leq, nI_leE, nI_ltE, nI_eqE, nI_eqM, nI_add, nI_addL, nI_Ladd, nI_mulL, nI_Lmul, pk_mul, pk_sub, nI_subL, nI_Lsub, i2l_nI, Int.toNat_natCast, Nat.not_lt_zero, Nat.zero_le, ifT, ifF, not_true_eq_false, not_false_eq_true, if_true, if_false, or_self, and_self, true_and, and_true, or_true, true_or, false_or, or_false, false_and, and_false]
            exact s _ _
          · have n2 : ¬ (OP i o).toInt ≤ (V i : Int) + H0 := by omega
            simp (disch := first | assumption | omega | decide | (simp only [List.length_cons, List.length_nil, Nat.reduceAdd, Nat.reduceLT]; done) | fail) only [r66_86, r66_87, r66_90, r66_91, r66_92, r66_95, r66_96, r66_99, r66_100, r66_101, r66_103, r66_104, r66_106, r66_108, r66_109, r66_110, r66_111, r66_114, r66_116, r66_117, r66_119, r66_120, r66_123, r66_173, r66_176, hr19 hO, hr43 hO, hr23 hO hi20, gA_row hO hi20, gI, ci1, eO, lg_cmp_lt, lg_cmp_le, c1, c2, n1, n2, oGF_is, WPo_some, List.getElem?_cons_succ, List.getElem?_cons_zero, kil_n, kil_i, kil_a, kil_u, kil_l, Option.toList_some, Option.toList_none, List.cons_append, List.nil_append, List.set_cons_succ, List.set_cons_zero, addm1, Nat.reduceAdd, List.length_cons, List.length_nil, Nat.reduceLT, nI_clamp, nI_toInt, nI_leL, nI_Lle, nI_ltL, nI_Llt, nI_eqL, nI_Leq, nI_leE, nI_ltE, nI_eqE, nI_eqM, nI_add, nI_addL, nI_Ladd, nI_mulL, nI_Lmul, pk_mul, pk_sub, nI_subL, nI_Lsub, i2l_nI, Int.toNat_natCast, Nat.not_lt_zero, Nat.zero_le, ifT, ifF, not_true_eq_false, not_false_eq_true, if_true, if_false, or_self, and_self, true_and, and_true, or_true, true_or, false_or, or_false, false_and, and_false]
            exact s _ _
    have l := loop ci 0 none none (iL L0) (iL H0) (by omega) (fun q y h => absurd h (by omega))
    generalize hm : min i (n - k - 1) = m at *
    simp (disch := first | assumption | omega | decide | (simp only [List.length_cons, List.length_nil, Nat.reduceAdd, Nat.reduceLT]; done) | fail) only [r66_54, r66_55, r66_58, r66_59, r66_60, r66_61, r66_62, r66_65, r66_66, r66_67, r66_68, r66_71, r66_72, r66_73, r66_74, r66_75, r66_78, r66_79, r66_81, r66_82, hr19 hO, hr20 hO, gI, vi1, eV, iL_add, oGF_is, WPo_some, List.getElem?_cons_succ, List.getElem?_cons_zero, kil_n, kil_i, kil_a, kil_u, kil_l, Option.toList_some, Option.toList_none, List.cons_append, List.nil_append, List.set_cons_succ, List.set_cons_zero, addm1, Nat.reduceAdd, List.length_cons, List.length_nil, Nat.reduceLT, nI_clamp, nI_toInt, nI_leL, nI_Lle, nI_ltL, nI_Llt, nI_eqL, nI_Leq, nI_leE, nI_ltE, nI_eqE, nI_eqM, nI_add, nI_addL, nI_Ladd, nI_mulL, nI_Lmul, pk_mul, pk_sub, nI_subL, nI_Lsub, i2l_nI, Int.toNat_natCast, Nat.not_lt_zero, Nat.zero_le, ifT, ifF, not_true_eq_false, not_false_eq_true, if_true, if_false, or_self, and_self, true_and, and_true, or_true, true_or, false_or, or_false, false_and, and_false]
    exact l)
  obtain ⟨r1, x1, ⟨r, fn', L, H, wi', sh', e1, e2, e3⟩, w⟩ := WP.ex main
  subst e1 e2
  refine ⟨r, fn', L, H, wi', sh', e66 ?_, e3⟩
  have kw := c_widen (E := E) (c := c + 2) (S := S) (fn := fn) (lo := lo) (hi := hi) (vl := vl) (oc := oc) (wi := wi) (sh := sh) (dl := dl) (OP := OP) (mn := nI n) (od := nI k) (bd := nI b) hO
  have kf := c_first (E := E) (c := c + 1) (S := S) (fn := fn) (lo := iL (-99999999)) (hi := iL 99999999) (vl := vl) (oc := oc) (wi := wi) (sh := sh) (dl := dl) (OP := OP) (mn := nI n) (bd := nI b) hO hi20 h4
  simp (disch := first | assumption | omega | decide | (simp only [List.length_cons, List.length_nil, Nat.reduceAdd, Nat.reduceLT]; done) | fail) only [r66_0, r66_4, r66_5, r66_9, q66_1 kw (er_ci hO), q66_6 kf (er_ci hO), oGF_is, WPo_some, List.getElem?_cons_succ, List.getElem?_cons_zero, kil_n, kil_i, kil_a, kil_u, kil_l, Option.toList_some, Option.toList_none, List.cons_append, List.nil_append, List.set_cons_succ, List.set_cons_zero, addm1, Nat.reduceAdd, List.length_cons, List.length_nil, Nat.reduceLT, not_true_eq_false, not_false_eq_true, if_true, if_false, or_self, and_self, true_and, and_true, or_true, true_or, false_or, or_false, false_and, and_false]
  exact w
end EXa

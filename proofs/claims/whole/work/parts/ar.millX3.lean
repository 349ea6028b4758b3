/-! The class' mill: the run -/
noncomputable def rnL (G : Nat → Nat) (D : Nat → aCd) (cn : Nat) : Nat → Nat → aMs → aMs × Nat × Int32 × Nat
  | 0, dn, st => (st, 0, -1, dn)
  | z + 1, dn, st => if st.2.2.2.2.1 < cn then (if dn = 5000 then (st, 4, nI st.2.2.2.2.1, dn) else if alm (D st.2.2.2.2.1) st.1 st.2.2.1 = 0 then rnL G D cn z (dn + 1) (doS G (D st.2.2.2.2.1) st) else (st, alm (D st.2.2.2.2.1) st.1 st.2.2.1, nI st.2.2.2.2.1, dn)) else (st, 0, -1, dn)
theorem alm_le {C : aCd} {P : Nat → Int64} {pn : Nat} : alm C P pn ≤ 3 := by
  unfold alm
  repeat' split
  all_goals omega
noncomputable def dkOK (D : Nat → aCd) (cn : Nat) : Prop := cn ≤ 40 ∧ ∀ i, i < cn → cdOK (D i) ∧ ldX (D i) i cn = false
section MLR
variable {E : aEnv} {c : Nat} {ah : aHp} {A : Nat → Nat} {S : Nat → aE} {b cn : Nat} {kd wn nm ls : Nat → Int32} {wl : Nat → Int64} {C : aCd}
theorem c_doCard (hO : XO E ah A) (hb : 61 ≤ b ∧ b ≤ 67) (hH : dkH A S b kd wn nm ls wl cn) (hc : cn ≤ 40) {st : aMs} (hst : okM st cn) (hat : st.2.2.2.2.1 < cn) (hI : dkI kd wn nm ls wl st.2.2.2.2.1 C) (hC : cdOK C) (hl : ldX C st.2.2.2.2.1 cn = false) {G : Nat → Nat} (hG : GG G) {ac : Int32} {dn : Nat} : EV E (c + 4) 105 [.ref (A 16), .ref (A b)] (oh E ah A (mst A S st 0 ac dn)) none (oh E ah A (mst A S (if alm C st.1 st.2.2.1 = 0 then doS G C st else st) (alm C st.1 st.2.2.1) ac dn)) := by
  obtain ⟨P, R, pn, up, at', cr⟩ := st
  dsimp only at hat hI hl ⊢
  obtain ⟨s1, s2, s3⟩ := hst
  dsimp only at s1 s2 s3
  have hI0 := hI
  obtain ⟨d1, d2, d3, d4, d5⟩ := hI
  have hC0 := hC
  obtain ⟨o1, o2, o3, o4, -⟩ := hC
  refine e105 ?_
  have hH1 := dkH_ml (al := 0) (ac := ac) (dn := dn) hb (st := (P, R, pn, up, at', cr)) hH
  have ci := dkH_ci hO hb hH1
  have k0 := c_numOf (E := E) (c := c + 2) hO hb hH1 hc hat (j := 0) (by decide)
  have k1 := c_numOf (E := E) (c := c + 2) hO hb hH1 hc hat (j := 1) (by decide)
  rw [show nI 0 = (0 : Int32) from rfl] at k0
  rw [show nI 1 = (1 : Int32) from rfl] at k1
  have kk := c_kindOf (E := E) (c := c + 2) hO hb hH1 hc hat
  rw [d1] at kk
  -- up to the switch, given the two numbers
  have head : ∀ (x y : Int64) (Q : Option Value → aHp → Prop), EV E (c + 3) 101 [.ref (A 16), .int (nm (4 * at' + 0))] (oh E ah A (mst A S (P, R, pn, up, at', cr) 0 ac dn)) (some (.long x)) (oh E ah A (mst A S (P, R, pn, up, at', cr) 0 ac dn)) → EV E (c + 3) 101 [.ref (A 16), .int (nm (4 * at' + 1))] (oh E ah A (mst A S (P, R, pn, up, at', cr) 0 ac dn)) (some (.long y)) (oh E ah A (mst A S (P, R, pn, up, at', cr) 0 ac dn)) → WP E (c + 4) 105 37 [some (.ref (A 16)), some (.ref (A b)), some (.long x), none, some (.long y), none] [.int (nI C.1)] (oh E ah A (mst A S (P, R, pn, up, at', cr) 0 ac dn)) Q → WP E (c + 4) 105 0 [some (.ref (A 16)), some (.ref (A b)), none, none, none, none] [] (oh E ah A (mst A S (P, R, pn, up, at', cr) 0 ac dn)) Q := by
    intro x y Q kx ky w
    simp (disch := first | assumption | omega | decide | (simp only [List.length_cons, List.length_nil, Nat.reduceAdd, Nat.reduceLT]; done) | fail) only [r105_0, r105_1, r105_1n, r105_2, r105_3, r105_6, r105_13, r105_14, r105_15, r105_15n, r105_16, r105_17, r105_20, r105_27, r105_29, r105_29n, r105_30, r105_31, hl16 hO, q105_7 k0 ci, q105_10 kx (ml_ci hO), q105_21 k1 ci, q105_24 ky (ml_ci hO), q105_34 kk ci, oGF_is, WPo_some, List.getElem?_cons_succ, List.getElem?_cons_zero, kil_n, kil_i, kil_a, kil_u, kil_l, Option.toList_some, Option.toList_none, List.cons_append, List.nil_append, List.set_cons_succ, List.set_cons_zero, addm1, Nat.reduceAdd, List.length_cons, List.length_nil, Nat.reduceLT, not_true_eq_false, not_false_eq_true, if_true, if_false, or_self, and_self, true_and, and_true, or_true, true_or, false_or, or_false, false_and, and_false]
    exact w
  obtain ⟨y', ky'⟩ := c_numIn' (E := E) (c := c + 3) (S := S) (P := P) (R := R) (pn := pn) (up := up) (at' := at') (cr := cr) (al := 0) (ac := ac) (dn := dn) hO (x := nm (4 * at' + 1))
  by_cases h5 : C.1 ≤ 5
  · have o4' := o4 h5
    have a19 := o4' 0
    have pl1 : 0 < plc C.1 := by
      unfold plc
      repeat' split
      all_goals omega
    have n0 : nm (4 * at' + 0) = nI (C.2.2.1 0) := d3 0 pl1
    have kx := c_numIn (E := E) (c := c + 3) (S := S) (P := P) (R := R) (pn := pn) (up := up) (at' := at') (cr := cr) (al := 0) (ac := ac) (dn := dn) hO (p := C.2.2.1 0) (by omega)
    have kx' := kx
    rw [← n0] at kx'
    rw [n0] at k0
    rcases (show C.1 = 0 ∨ C.1 = 1 ∨ C.1 = 2 ∨ C.1 = 3 ∨ C.1 = 4 ∨ C.1 = 5 by omega) with h | h | h | h | h | h
    · have ea : alm C P pn = 0 := by unfold alm; simp [h]
      rw [ea, if_pos rfl]
      have eD : doS G C (P, R, pn, up, at', cr) = (vp_updL P (C.2.2.1 0) C.2.2.2.2, R, pn, up, at' + 1, cr + 1) := if_pos h
      rw [eD]
      refine head _ y' _ kx' ky' ?_
      have kw := c_wholeOf (E := E) (c := c + 2) hO hb hH1 hc hat
      rw [d5 h] at kw
      have kl := c_layM (E := E) (c := c + 3) (S := S) (P := P) (R := R) (pn := pn) (up := up) (at' := at') (cr := cr) (al := 0) (ac := ac) (dn := dn) hO (p := C.2.2.1 0) (by omega) (x := C.2.2.2.2)
      have kg := c_goOn (E := E) (c := c + 3) (S := S) (P := vp_updL P (C.2.2.1 0) C.2.2.2.2) (R := R) (pn := pn) (up := up) (at' := at') (cr := cr) (al := 0) (ac := ac) (dn := dn) hO (x := 1)
      rw [h, show nI 0 = (0 : Int32) from rfl]
      simp (disch := first | assumption | omega | decide | (simp only [List.length_cons, List.length_nil, Nat.reduceAdd, Nat.reduceLT]; done) | fail) only [r105_37_0, r105_76, r105_77, r105_77n, r105_78, r105_79, r105_82, r105_86, r105_86n, r105_87, r105_88, r105_97, r105_98, r105_102, r105_166, hl16 hO, q105_83 k0 ci, q105_91 kw ci, q105_94 kl (ml_ci hO), q105_99 kg (ml_ci hO), oGF_is, WPo_some, List.getElem?_cons_succ, List.getElem?_cons_zero, kil_n, kil_i, kil_a, kil_u, kil_l, Option.toList_some, Option.toList_none, List.cons_append, List.nil_append, List.set_cons_succ, List.set_cons_zero, addm1, Nat.reduceAdd, List.length_cons, List.length_nil, Nat.reduceLT, not_true_eq_false, not_false_eq_true, if_true, if_false, or_self, and_self, true_and, and_true, or_true, true_or, false_or, or_false, false_and, and_false]
    · have pl : plc C.1 = 3 := by rw [h]; rfl
      have n1 := d3 1 (by omega)
      have n2 := d3 2 (by omega)
      have a1 := o4' 1
      have a2 := o4' 2
      have ky := c_numIn (E := E) (c := c + 3) (S := S) (P := P) (R := R) (pn := pn) (up := up) (at' := at') (cr := cr) (al := 0) (ac := ac) (dn := dn) hO (p := C.2.2.1 1) (by omega)
      rw [← n1] at ky
      refine head _ _ _ kx' ky ?_
      have ea : alm C P pn = if 999999999999 < (P (C.2.2.1 0) + P (C.2.2.1 1)).toInt.natAbs then 1 else 0 := if_pos h
      have eD : doS G C (P, R, pn, up, at', cr) = ccl C (P, R, pn, up, at', cr) (P (C.2.2.1 0) + P (C.2.2.1 1)) 2 := by unfold doS; rw [if_neg (by omega), if_pos h]
      rw [ea, eD, h, show nI 1 = (1 : Int32) from rfl]
      by_cases w : 999999999999 < (P (C.2.2.1 0) + P (C.2.2.1 1)).toInt.natAbs
      · have kc := c_concludeAl (E := E) (c := c + 1) (S := S) (P := P) (R := R) (pn := pn) (up := up) (at' := at') (cr := cr) (al := 0) (ac := ac) (dn := dn) hO (p1 := A b) (x := 2) w
        rw [if_pos w, if_neg (by decide)]
        simp (disch := first | assumption | omega | decide | (simp only [List.length_cons, List.length_nil, Nat.reduceAdd, Nat.reduceLT]; done) | fail) only [r105_37_1, r105_105, r105_106, r105_106n, r105_107, r105_108, r105_110, r105_111, r105_115, r105_166, q105_112 kc (ml_ci hO), oGF_is, WPo_some, List.getElem?_cons_succ, List.getElem?_cons_zero, kil_n, kil_i, kil_a, kil_u, kil_l, Option.toList_some, Option.toList_none, List.cons_append, List.nil_append, List.set_cons_succ, List.set_cons_zero, addm1, Nat.reduceAdd, List.length_cons, List.length_nil, Nat.reduceLT, not_true_eq_false, not_false_eq_true, if_true, if_false, or_self, and_self, true_and, and_true, or_true, true_or, false_or, or_false, false_and, and_false]
      · have kc := c_conclude (E := E) (c := c + 1) (S := S) (P := P) (R := R) (pn := pn) (up := up) (cr := cr) (al := 0) (ac := ac) (dn := dn) hO hb hH hc hat (d := C.2.2.1 2) (by omega) n2 (x := 2) w
        rw [if_neg w, if_pos rfl]
        simp (disch := first | assumption | omega | decide | (simp only [List.length_cons, List.length_nil, Nat.reduceAdd, Nat.reduceLT]; done) | fail) only [r105_37_1, r105_105, r105_106, r105_106n, r105_107, r105_108, r105_110, r105_111, r105_115, r105_166, q105_112 kc (ml_ci hO), oGF_is, WPo_some, List.getElem?_cons_succ, List.getElem?_cons_zero, kil_n, kil_i, kil_a, kil_u, kil_l, Option.toList_some, Option.toList_none, List.cons_append, List.nil_append, List.set_cons_succ, List.set_cons_zero, addm1, Nat.reduceAdd, List.length_cons, List.length_nil, Nat.reduceLT, not_true_eq_false, not_false_eq_true, if_true, if_false, or_self, and_self, true_and, and_true, or_true, true_or, false_or, or_false, false_and, and_false]
        exact rfl
    · have pl : plc C.1 = 3 := by rw [h]; rfl
      have n1 := d3 1 (by omega)
      have n2 := d3 2 (by omega)
      have a1 := o4' 1
      have a2 := o4' 2
      have ky := c_numIn (E := E) (c := c + 3) (S := S) (P := P) (R := R) (pn := pn) (up := up) (at' := at') (cr := cr) (al := 0) (ac := ac) (dn := dn) hO (p := C.2.2.1 1) (by omega)
      rw [← n1] at ky
      refine head _ _ _ kx' ky ?_
      have ea : alm C P pn = if 999999999999 < (P (C.2.2.1 0) - P (C.2.2.1 1)).toInt.natAbs then 1 else 0 := by unfold alm; rw [if_neg (by omega), if_pos h]
      have eD : doS G C (P, R, pn, up, at', cr) = ccl C (P, R, pn, up, at', cr) (P (C.2.2.1 0) - P (C.2.2.1 1)) 2 := by unfold doS; rw [if_neg (by omega), if_neg (by omega), if_pos h]
      rw [ea, eD, h, show nI 2 = (2 : Int32) from rfl]
      by_cases w : 999999999999 < (P (C.2.2.1 0) - P (C.2.2.1 1)).toInt.natAbs
      · have kc := c_concludeAl (E := E) (c := c + 1) (S := S) (P := P) (R := R) (pn := pn) (up := up) (at' := at') (cr := cr) (al := 0) (ac := ac) (dn := dn) hO (p1 := A b) (x := 2) w
        rw [if_pos w, if_neg (by decide)]
        simp (disch := first | assumption | omega | decide | (simp only [List.length_cons, List.length_nil, Nat.reduceAdd, Nat.reduceLT]; done) | fail) only [r105_37_2, r105_118, r105_119, r105_119n, r105_120, r105_121, r105_123, r105_124, r105_128, r105_166, q105_125 kc (ml_ci hO), oGF_is, WPo_some, List.getElem?_cons_succ, List.getElem?_cons_zero, kil_n, kil_i, kil_a, kil_u, kil_l, Option.toList_some, Option.toList_none, List.cons_append, List.nil_append, List.set_cons_succ, List.set_cons_zero, addm1, Nat.reduceAdd, List.length_cons, List.length_nil, Nat.reduceLT, not_true_eq_false, not_false_eq_true, if_true, if_false, or_self, and_self, true_and, and_true, or_true, true_or, false_or, or_false, false_and, and_false]
      · have kc := c_conclude (E := E) (c := c + 1) (S := S) (P := P) (R := R) (pn := pn) (up := up) (cr := cr) (al := 0) (ac := ac) (dn := dn) hO hb hH hc hat (d := C.2.2.1 2) (by omega) n2 (x := 2) w
        rw [if_neg w, if_pos rfl]
        simp (disch := first | assumption | omega | decide | (simp only [List.length_cons, List.length_nil, Nat.reduceAdd, Nat.reduceLT]; done) | fail) only [r105_37_2, r105_118, r105_119, r105_119n, r105_120, r105_121, r105_123, r105_124, r105_128, r105_166, q105_125 kc (ml_ci hO), oGF_is, WPo_some, List.getElem?_cons_succ, List.getElem?_cons_zero, kil_n, kil_i, kil_a, kil_u, kil_l, Option.toList_some, Option.toList_none, List.cons_append, List.nil_append, List.set_cons_succ, List.set_cons_zero, addm1, Nat.reduceAdd, List.length_cons, List.length_nil, Nat.reduceLT, not_true_eq_false, not_false_eq_true, if_true, if_false, or_self, and_self, true_and, and_true, or_true, true_or, false_or, or_false, false_and, and_false]
        exact rfl
    · have pl : plc C.1 = 3 := by rw [h]; rfl
      have n1 := d3 1 (by omega)
      have n2 := d3 2 (by omega)
      have a1 := o4' 1
      have a2 := o4' 2
      have ky := c_numIn (E := E) (c := c + 3) (S := S) (P := P) (R := R) (pn := pn) (up := up) (at' := at') (cr := cr) (al := 0) (ac := ac) (dn := dn) hO (p := C.2.2.1 1) (by omega)
      rw [← n1] at ky
      refine head _ _ _ kx' ky ?_
      have ea : alm C P pn = if 999999999999 < (P (C.2.2.1 0)).toInt.natAbs * (P (C.2.2.1 1)).toInt.natAbs then 1 else 0 := by unfold alm; rw [if_neg (by omega), if_neg (by omega), if_pos h]
      have eD : doS G C (P, R, pn, up, at', cr) = ccl C (P, R, pn, up, at', cr) (P (C.2.2.1 0) * P (C.2.2.1 1)) (2 + nI (G (P (C.2.2.1 0)).toInt.natAbs)) := by unfold doS; rw [if_neg (by omega), if_neg (by omega), if_neg (by omega), if_pos h]
      have km := c_multiply (E := E) (c := c) (S := S) (P := P) (R := R) (pn := pn) (up := up) (cr := cr) (ac := ac) (dn := dn) hO hb hH hc hat (d := C.2.2.1 2) (by omega) n2 hG (s1 (C.2.2.1 0) (by omega)) (s1 (C.2.2.1 1) (by omega))
      rw [ea, eD, h, show nI 3 = (3 : Int32) from rfl]
      by_cases w : 999999999999 < (P (C.2.2.1 0)).toInt.natAbs * (P (C.2.2.1 1)).toInt.natAbs
      · rw [if_pos w] at km
        rw [if_pos w, if_neg (by decide)]
        simp (disch := first | assumption | omega | decide | (simp only [List.length_cons, List.length_nil, Nat.reduceAdd, Nat.reduceLT]; done) | fail) only [r105_37_3, r105_131, r105_132, r105_132n, r105_133, r105_134, r105_139, r105_166, q105_136 km (ml_ci hO), oGF_is, WPo_some, List.getElem?_cons_succ, List.getElem?_cons_zero, kil_n, kil_i, kil_a, kil_u, kil_l, Option.toList_some, Option.toList_none, List.cons_append, List.nil_append, List.set_cons_succ, List.set_cons_zero, addm1, Nat.reduceAdd, List.length_cons, List.length_nil, Nat.reduceLT, not_true_eq_false, not_false_eq_true, if_true, if_false, or_self, and_self, true_and, and_true, or_true, true_or, false_or, or_false, false_and, and_false]
      · rw [if_neg w] at km
        rw [if_neg w, if_pos rfl]
        simp (disch := first | assumption | omega | decide | (simp only [List.length_cons, List.length_nil, Nat.reduceAdd, Nat.reduceLT]; done) | fail) only [r105_37_3, r105_131, r105_132, r105_132n, r105_133, r105_134, r105_139, r105_166, q105_136 km (ml_ci hO), oGF_is, WPo_some, List.getElem?_cons_succ, List.getElem?_cons_zero, kil_n, kil_i, kil_a, kil_u, kil_l, Option.toList_some, Option.toList_none, List.cons_append, List.nil_append, List.set_cons_succ, List.set_cons_zero, addm1, Nat.reduceAdd, List.length_cons, List.length_nil, Nat.reduceLT, not_true_eq_false, not_false_eq_true, if_true, if_false, or_self, and_self, true_and, and_true, or_true, true_or, false_or, or_false, false_and, and_false]
        exact rfl
    · have pl : plc C.1 = 4 := by rw [h]; rfl
      have n1 := d3 1 (by omega)
      have n2 := d3 2 (by omega)
      have n3 := d3 3 (by omega)
      have a1 := o4' 1
      have a2 := o4' 2
      have a3 := o4' 3
      have ky := c_numIn (E := E) (c := c + 3) (S := S) (P := P) (R := R) (pn := pn) (up := up) (at' := at') (cr := cr) (al := 0) (ac := ac) (dn := dn) hO (p := C.2.2.1 1) (by omega)
      rw [← n1] at ky
      refine head _ _ _ kx' ky ?_
      have ea : alm C P pn = if P (C.2.2.1 1) = 0 then 2 else 0 := by unfold alm; rw [if_neg (by omega), if_neg (by omega), if_neg (by omega), if_pos h]
      have eD : doS G C (P, R, pn, up, at', cr) = (vp_updL (vp_updL P (C.2.2.1 2) (P (C.2.2.1 0) / P (C.2.2.1 1))) (C.2.2.1 3) (P (C.2.2.1 0) - P (C.2.2.1 0) / P (C.2.2.1 1) * P (C.2.2.1 1)), R, pn, decide (P (C.2.2.1 0) / P (C.2.2.1 1) < 0), at' + 1, cr + (3 + nI (G (P (C.2.2.1 0) / P (C.2.2.1 1)).toInt.natAbs))) := by
        unfold doS
        rw [if_neg (by omega), if_neg (by omega), if_neg (by omega), if_neg (by omega), if_pos h]
        rfl
      have km := c_divide (E := E) (c := c) (S := S) (P := P) (R := R) (pn := pn) (up := up) (cr := cr) (ac := ac) (dn := dn) hO hb hH hc hat (d := C.2.2.1 2) (by omega) n2 (d3 := C.2.2.1 3) (by omega) n3 hG (s1 (C.2.2.1 0) (by omega)) (s1 (C.2.2.1 1) (by omega))
      rw [ea, eD, h, show nI 4 = (4 : Int32) from rfl]
      by_cases w : P (C.2.2.1 1) = 0
      · rw [if_pos w] at km
        rw [if_pos w, if_neg (by decide)]
        simp (disch := first | assumption | omega | decide | (simp only [List.length_cons, List.length_nil, Nat.reduceAdd, Nat.reduceLT]; done) | fail) only [r105_37_4, r105_142, r105_143, r105_143n, r105_144, r105_145, r105_150, r105_166, q105_147 km (ml_ci hO), oGF_is, WPo_some, List.getElem?_cons_succ, List.getElem?_cons_zero, kil_n, kil_i, kil_a, kil_u, kil_l, Option.toList_some, Option.toList_none, List.cons_append, List.nil_append, List.set_cons_succ, List.set_cons_zero, addm1, Nat.reduceAdd, List.length_cons, List.length_nil, Nat.reduceLT, not_true_eq_false, not_false_eq_true, if_true, if_false, or_self, and_self, true_and, and_true, or_true, true_or, false_or, or_false, false_and, and_false]
      · rw [if_neg w] at km
        rw [if_neg w, if_pos rfl]
        simp (disch := first | assumption | omega | decide | (simp only [List.length_cons, List.length_nil, Nat.reduceAdd, Nat.reduceLT]; done) | fail) only [r105_37_4, r105_142, r105_143, r105_143n, r105_144, r105_145, r105_150, r105_166, q105_147 km (ml_ci hO), oGF_is, WPo_some, List.getElem?_cons_succ, List.getElem?_cons_zero, kil_n, kil_i, kil_a, kil_u, kil_l, Option.toList_some, Option.toList_none, List.cons_append, List.nil_append, List.set_cons_succ, List.set_cons_zero, addm1, Nat.reduceAdd, List.length_cons, List.length_nil, Nat.reduceLT, not_true_eq_false, not_false_eq_true, if_true, if_false, or_self, and_self, true_and, and_true, or_true, true_or, false_or, or_false, false_and, and_false]
    · refine head _ y' _ kx' ky' ?_
      have ea : alm C P pn = if pn = 40 then 3 else 0 := by unfold alm; rw [if_neg (by omega), if_neg (by omega), if_neg (by omega), if_neg (by omega), if_pos h]
      have eD : doS G C (P, R, pn, up, at', cr) = (P, vp_updL R pn (P (C.2.2.1 0)), pn + 1, up, at' + 1, cr + 1) := by
        unfold doS
        rw [if_neg (by omega), if_neg (by omega), if_neg (by omega), if_neg (by omega), if_neg (by omega), if_pos h]
      rw [ea, eD, h, show nI 5 = (5 : Int32) from rfl]
      by_cases w : pn = 40
      · subst w
        have kp := c_printAl (E := E) (c := c + 2) (S := S) (P := P) (R := R) (up := up) (at' := at') (cr := cr) (al := 0) (ac := ac) (dn := dn) hO (x := P (C.2.2.1 0))
        rw [if_pos rfl, if_neg (by decide)]
        simp (disch := first | assumption | omega | decide | (simp only [List.length_cons, List.length_nil, Nat.reduceAdd, Nat.reduceLT]; done) | fail) only [r105_37_5, r105_153, r105_154, r105_158, r105_166, q105_155 kp (ml_ci hO), oGF_is, WPo_some, List.getElem?_cons_succ, List.getElem?_cons_zero, kil_n, kil_i, kil_a, kil_u, kil_l, Option.toList_some, Option.toList_none, List.cons_append, List.nil_append, List.set_cons_succ, List.set_cons_zero, addm1, Nat.reduceAdd, List.length_cons, List.length_nil, Nat.reduceLT, not_true_eq_false, not_false_eq_true, if_true, if_false, or_self, and_self, true_and, and_true, or_true, true_or, false_or, or_false, false_and, and_false]
      · have kp := c_printNo (E := E) (c := c + 2) (S := S) (P := P) (R := R) (pn := pn) (up := up) (at' := at') (cr := cr) (al := 0) (ac := ac) (dn := dn) hO (x := P (C.2.2.1 0)) (by omega)
        rw [if_neg w, if_pos rfl]
        simp (disch := first | assumption | omega | decide | (simp only [List.length_cons, List.length_nil, Nat.reduceAdd, Nat.reduceLT]; done) | fail) only [r105_37_5, r105_153, r105_154, r105_158, r105_166, q105_155 kp (ml_ci hO), oGF_is, WPo_some, List.getElem?_cons_succ, List.getElem?_cons_zero, kil_n, kil_i, kil_a, kil_u, kil_l, Option.toList_some, Option.toList_none, List.cons_append, List.nil_append, List.set_cons_succ, List.set_cons_zero, addm1, Nat.reduceAdd, List.length_cons, List.length_nil, Nat.reduceLT, not_true_eq_false, not_false_eq_true, if_true, if_false, or_self, and_self, true_and, and_true, or_true, true_or, false_or, or_false, false_and, and_false]
  · have hk : C.1 = 6 ∨ C.1 = 7 := by omega
    obtain ⟨x', kx'⟩ := c_numIn' (E := E) (c := c + 3) (S := S) (P := P) (R := R) (pn := pn) (up := up) (at' := at') (cr := cr) (al := 0) (ac := ac) (dn := dn) hO (x := nm (4 * at' + 0))
    refine head x' y' _ kx' ky' ?_
    have ea : alm C P pn = 0 := by unfold alm; rw [if_neg (by omega), if_neg (by omega), if_neg (by omega), if_neg (by omega), if_neg (by omega)]
    have eD : doS G C (P, R, pn, up, at', cr) = ldS C (P, R, pn, up, at', cr) := by
      unfold doS
      rw [if_neg (by omega), if_neg (by omega), if_neg (by omega), if_neg (by omega), if_neg (by omega), if_neg (by omega)]
    have kl := c_leadM (E := E) (c := c) (S := S) (P := P) (R := R) (pn := pn) (up := up) (cr := cr) (al := 0) (ac := ac) (dn := dn) hO hb hH hc hat hI0 hC0 hk hl
    rw [ea, if_pos rfl, eD, r105_37_d (by rw [nI_toInt (by omega)]; omega)]
    simp (disch := first | assumption | omega | decide | (simp only [List.length_cons, List.length_nil, Nat.reduceAdd, Nat.reduceLT]; done) | fail) only [r105_161, r105_162, r105_162n, r105_166, q105_163 kl (ml_ci hO), oGF_is, WPo_some, List.getElem?_cons_succ, List.getElem?_cons_zero, kil_n, kil_i, kil_a, kil_u, kil_l, Option.toList_some, Option.toList_none, List.cons_append, List.nil_append, List.set_cons_succ, List.set_cons_zero, addm1, Nat.reduceAdd, List.length_cons, List.length_nil, Nat.reduceLT, not_true_eq_false, not_false_eq_true, if_true, if_false, or_self, and_self, true_and, and_true, or_true, true_or, false_or, or_false, false_and, and_false]
end MLR

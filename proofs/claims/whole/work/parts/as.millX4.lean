/-! The class' run -/
section RNX
variable {E : aEnv} {c : Nat} {ah : aHp} {A : Nat → Nat} {S : Nat → aE} {b cn : Nat} {kd wn nm ls : Nat → Int32} {wl : Nat → Int64}
theorem l_rnX (hO : XO E ah A) {l1 : Option Value} {st : aMs} {al dn i : Nat} {ac : Int32} (hal : ¬ al = 0) (hal4 : al ≤ 4) (hi : i ≤ 5001) : WP E c 103 6 [some (.ref (A 16)), some (.ref (A b)), some (.int (nI i))] [] (oh E ah A (mst A S st al ac dn)) (fun r x => r = none ∧ x = oh E ah A (mst A S st al ac dn)) := by
  obtain ⟨P, R, pn, up, at', cr⟩ := st
  rw [r103_6]
  by_cases y : i = 5001
  · subst y
    simp (disch := first | assumption | omega | decide | (simp only [List.length_cons, List.length_nil, Nat.reduceAdd, Nat.reduceLT]; done) | fail) only [r103_7, r103_10, r103_88, oGF_is, WPo_some, List.getElem?_cons_succ, List.getElem?_cons_zero, kil_n, kil_i, kil_a, kil_u, kil_l, Option.toList_some, Option.toList_none, List.cons_append, List.nil_append, List.set_cons_succ, List.set_cons_zero, addm1, Nat.reduceAdd, List.length_cons, List.length_nil, Nat.reduceLT, nI_clamp, nI_toInt, nI_leL, nI_Lle, nI_ltL, nI_Llt, nI_eqL, nI_Leq, nI_leE, nI_ltE, nI_eqE, nI_eqM, nI_add, nI_addL, nI_Ladd, nI_mulL, nI_Lmul, pk_mul, pk_sub, nI_subL, nI_Lsub, i2l_nI, Int.toNat_natCast, Nat.not_lt_zero, Nat.zero_le, ifT, ifF, not_true_eq_false, not_false_eq_true, if_true, if_false, or_self, and_self, true_and, and_true, or_true, true_or, false_or, or_false, false_and, and_false]
  · simp (disch := first | assumption | omega | decide | (simp only [List.length_cons, List.length_nil, Nat.reduceAdd, Nat.reduceLT]; done) | fail) only [r103_7, r103_10, r103_13, r103_14, r103_17, r103_88, hl16 hO, hal, oGF_is, WPo_some, List.getElem?_cons_succ, List.getElem?_cons_zero, kil_n, kil_i, kil_a, kil_u, kil_l, Option.toList_some, Option.toList_none, List.cons_append, List.nil_append, List.set_cons_succ, List.set_cons_zero, addm1, Nat.reduceAdd, List.length_cons, List.length_nil, Nat.reduceLT, nI_clamp, nI_toInt, nI_leL, nI_Lle, nI_ltL, nI_Llt, nI_eqL, nI_Leq, nI_leE, nI_ltE, nI_eqE, nI_eqM, nI_add, nI_addL, nI_Ladd, nI_mulL, nI_Lmul, pk_mul, pk_sub, nI_subL, nI_Lsub, i2l_nI, Int.toNat_natCast, Nat.not_lt_zero, Nat.zero_le, ifT, ifF, not_true_eq_false, not_false_eq_true, if_true, if_false, or_self, and_self, true_and, and_true, or_true, true_or, false_or, or_false, false_and, and_false]
theorem l_rn (hO : XO E ah A) (hb : 61 ≤ b ∧ b ≤ 67) (hH : dkH A S b kd wn nm ls wl cn) {D : Nat → aCd} (hD : dkOK D cn) (hI : ∀ i, i < cn → dkI kd wn nm ls wl i (D i)) {G : Nat → Nat} (hG : GG G) : ∀ z dn st, dn + z = 5001 → okM st cn → WP E (c + 5) 103 6 [some (.ref (A 16)), some (.ref (A b)), some (.int (nI dn))] [] (oh E ah A (mst A S st 0 (-1) dn)) (fun r x => r = none ∧ x = oh E ah A (mst A S (rnL G D cn z dn st).1 (rnL G D cn z dn st).2.1 (rnL G D cn z dn st).2.2.1 (rnL G D cn z dn st).2.2.2))
  | 0, dn, st, hz, hst => by
    obtain ⟨P, R, pn, up, at', cr⟩ := st
    rw [show dn = 5001 by omega, r103_6]
    simp (disch := first | assumption | omega | decide | (simp only [List.length_cons, List.length_nil, Nat.reduceAdd, Nat.reduceLT]; done) | fail) only [r103_7, r103_10, r103_88, oGF_is, WPo_some, List.getElem?_cons_succ, List.getElem?_cons_zero, kil_n, kil_i, kil_a, kil_u, kil_l, Option.toList_some, Option.toList_none, List.cons_append, List.nil_append, List.set_cons_succ, List.set_cons_zero, addm1, Nat.reduceAdd, List.length_cons, List.length_nil, Nat.reduceLT, nI_clamp, nI_toInt, nI_leL, nI_Lle, nI_ltL, nI_Llt, nI_eqL, nI_Leq, nI_leE, nI_ltE, nI_eqE, nI_eqM, nI_add, nI_addL, nI_Ladd, nI_mulL, nI_Lmul, pk_mul, pk_sub, nI_subL, nI_Lsub, i2l_nI, Int.toNat_natCast, Nat.not_lt_zero, Nat.zero_le, ifT, ifF, not_true_eq_false, not_false_eq_true, if_true, if_false, or_self, and_self, true_and, and_true, or_true, true_or, false_or, or_false, false_and, and_false]
    exact rfl
  | z + 1, dn, st, hz, hst => by
    have hst0 := hst
    have hc := hD.1
    have hat40 : st.2.2.2.2.1 ≤ 40 := Nat.le_trans hst.2.2 hc
    have hH1 := dkH_ml (al := 0) (ac := -1) (dn := dn) hb (st := st) hH
    have ci := dkH_ci hO hb hH1
    have kh := c_hasCard (E := E) (c := c + 4) hO hb hH1 hc (x := nI st.2.2.2.2.1)
    rw [nI_toInt (show st.2.2.2.2.1 < 2 ^ 31 by omega)] at kh
    unfold rnL
    by_cases y : st.2.2.2.2.1 < cn
    · rw [if_pos y]
      rw [show b2i (0 ≤ ((st.2.2.2.2.1 : Nat) : Int) ∧ ((st.2.2.2.2.1 : Nat) : Int) < (cn : Int)) = 1 from if_pos (by omega)] at kh
      by_cases y5 : dn = 5000
      · rw [if_pos y5]
        subst y5
        have x := l_rnX (E := E) (c := c + 5) (S := S) (b := b) hO (l1 := none) (st := st) (al := 4) (dn := 5000) (i := 5000 + 1) (ac := nI st.2.2.2.2.1) (by decide) (by decide) (by decide)
        obtain ⟨P, R, pn, up, at', cr⟩ := st
        dsimp only at *
        have s4 := sl16 (E := E) (S := S) (P := P) (R := R) (pn := pn) (up := up) (at' := at') (cr := cr) (al := 0) (ac := -1) (dn := 5000) (pn' := pn) (up' := up) (at2 := at') (cr' := cr) (al' := 4) (ac' := -1) (dn' := 5000) hO
        rw [show nI 4 = (4 : Int32) from rfl] at s4
        rw [r103_6]
        simp (disch := first | assumption | omega | decide | (simp only [List.length_cons, List.length_nil, Nat.reduceAdd, Nat.reduceLT]; done) | fail) only [r103_7, r103_10, r103_13, r103_14, r103_17, r103_20, r103_20n, r103_21, r103_22, r103_28, r103_31, r103_32, r103_35, r103_38, r103_41, r103_42, r103_43, r103_46, r103_49, r103_50, r103_50n, r103_54, r103_55, r103_58, r103_61, r103_62, r103_62i, r103_63, r103_66, r103_67, r103_68, r103_71, r103_74, r103_75, r103_76, r103_79, r103_82, r103_85, hl16 hO, sl16 hO, s4, q103_25 kh ci, pf_7070, pf_7080, oGF_is, WPo_some, List.getElem?_cons_succ, List.getElem?_cons_zero, kil_n, kil_i, kil_a, kil_u, kil_l, Option.toList_some, Option.toList_none, List.cons_append, List.nil_append, List.set_cons_succ, List.set_cons_zero, addm1, Nat.reduceAdd, List.length_cons, List.length_nil, Nat.reduceLT, nI_clamp, nI_toInt, nI_leL, nI_Lle, nI_ltL, nI_Llt, nI_eqL, nI_Leq, nI_leE, nI_ltE, nI_eqE, nI_eqM, nI_add, nI_addL, nI_Ladd, nI_mulL, nI_Lmul, pk_mul, pk_sub, nI_subL, nI_Lsub, i2l_nI, Int.toNat_natCast, Nat.not_lt_zero, Nat.zero_le, ifT, ifF, not_true_eq_false, not_false_eq_true, if_true, if_false, or_self, and_self, true_and, and_true, or_true, true_or, false_or, or_false, false_and, and_false, show ¬ (1 : Int32) = 0 by decide]
        exact x
      · rw [if_neg y5]
        have kd' := c_doCard (E := E) (c := c) hO hb hH hc hst0 y (hI _ y) (hD.2 _ y).1 (hD.2 _ y).2 hG (ac := -1) (dn := dn)
        have a3 := alm_le (C := D st.2.2.2.2.1) (P := st.1) (pn := st.2.2.1)
        by_cases ya : alm (D st.2.2.2.2.1) st.1 st.2.2.1 = 0
        · rw [if_pos ya]
          rw [ya, if_pos rfl] at kd'
          have ih := l_rn hO hb hH hD hI hG z (dn + 1) (doS G (D st.2.2.2.2.1) st) (by omega) (okM_do hst0 (hD.2 _ y).1 (hD.2 _ y).2 y ya)
          generalize doS G (D st.2.2.2.2.1) st = st' at kd' ih ⊢
          obtain ⟨P, R, pn, up, at', cr⟩ := st
          obtain ⟨P', R', pn', up', at2, cr'⟩ := st'
          dsimp only at *
          rw [r103_6]
          simp (disch := first | assumption | omega | decide | (simp only [List.length_cons, List.length_nil, Nat.reduceAdd, Nat.reduceLT]; done) | fail) only [r103_7, r103_10, r103_13, r103_14, r103_17, r103_20, r103_20n, r103_21, r103_22, r103_28, r103_31, r103_32, r103_35, r103_38, r103_41, r103_42, r103_43, r103_46, r103_49, r103_50, r103_50n, r103_54, r103_55, r103_58, r103_61, r103_62, r103_62i, r103_63, r103_66, r103_67, r103_68, r103_71, r103_74, r103_75, r103_76, r103_79, r103_82, r103_85, hl16 hO, sl16 hO, q103_25 kh ci, q103_51 kd' (ml_ci hO), pf_7090, y5, oGF_is, WPo_some, List.getElem?_cons_succ, List.getElem?_cons_zero, kil_n, kil_i, kil_a, kil_u, kil_l, Option.toList_some, Option.toList_none, List.cons_append, List.nil_append, List.set_cons_succ, List.set_cons_zero, addm1, Nat.reduceAdd, List.length_cons, List.length_nil, Nat.reduceLT, nI_clamp, nI_toInt, nI_leL, nI_Lle, nI_ltL, nI_Llt, nI_eqL, nI_Leq, nI_leE, nI_ltE, nI_eqE, nI_eqM, nI_add, nI_addL, nI_Ladd, nI_mulL, nI_Lmul, pk_mul, pk_sub, nI_subL, nI_Lsub, i2l_nI, Int.toNat_natCast, Nat.not_lt_zero, Nat.zero_le, ifT, ifF, not_true_eq_false, not_false_eq_true, if_true, if_false, or_self, and_self, true_and, and_true, or_true, true_or, false_or, or_false, false_and, and_false, show ¬ (1 : Int32) = 0 by decide]
          exact ih
        · rw [if_neg ya]
          rw [if_neg ya] at kd'
          have x := l_rnX (E := E) (c := c + 5) (S := S) (b := b) hO (l1 := none) (st := st) (al := alm (D st.2.2.2.2.1) st.1 st.2.2.1) (dn := dn) (i := dn + 1) (ac := nI st.2.2.2.2.1) ya (by omega) (by omega)
          generalize alm (D st.2.2.2.2.1) st.1 st.2.2.1 = w at kd' ya a3 x ⊢
          obtain ⟨P, R, pn, up, at', cr⟩ := st
          dsimp only at *
          rw [r103_6]
          simp (disch := first | assumption | omega | decide | (simp only [List.length_cons, List.length_nil, Nat.reduceAdd, Nat.reduceLT]; done) | fail) only [r103_7, r103_10, r103_13, r103_14, r103_17, r103_20, r103_20n, r103_21, r103_22, r103_28, r103_31, r103_32, r103_35, r103_38, r103_41, r103_42, r103_43, r103_46, r103_49, r103_50, r103_50n, r103_54, r103_55, r103_58, r103_61, r103_62, r103_62i, r103_63, r103_66, r103_67, r103_68, r103_71, r103_74, r103_75, r103_76, r103_79, r103_82, r103_85, hl16 hO, sl16 hO, q103_25 kh ci, q103_51 kd' (ml_ci hO), pf_7080, y5, ya, oGF_is, WPo_some, List.getElem?_cons_succ, List.getElem?_cons_zero, kil_n, kil_i, kil_a, kil_u, kil_l, Option.toList_some, Option.toList_none, List.cons_append, List.nil_append, List.set_cons_succ, List.set_cons_zero, addm1, Nat.reduceAdd, List.length_cons, List.length_nil, Nat.reduceLT, nI_clamp, nI_toInt, nI_leL, nI_Lle, nI_ltL, nI_Llt, nI_eqL, nI_Leq, nI_leE, nI_ltE, nI_eqE, nI_eqM, nI_add, nI_addL, nI_Ladd, nI_mulL, nI_Lmul, pk_mul, pk_sub, nI_subL, nI_Lsub, i2l_nI, Int.toNat_natCast, Nat.not_lt_zero, Nat.zero_le, ifT, ifF, not_true_eq_false, not_false_eq_true, if_true, if_false, or_self, and_self, true_and, and_true, or_true, true_or, false_or, or_false, false_and, and_false, show ¬ (1 : Int32) = 0 by decide]
          exact x
    · rw [if_neg y]
      rw [show b2i (0 ≤ ((st.2.2.2.2.1 : Nat) : Int) ∧ ((st.2.2.2.2.1 : Nat) : Int) < (cn : Int)) = 0 from if_neg (by omega)] at kh
      obtain ⟨P, R, pn, up, at', cr⟩ := st
      dsimp only at *
      rw [r103_6]
      simp (disch := first | assumption | omega | decide | (simp only [List.length_cons, List.length_nil, Nat.reduceAdd, Nat.reduceLT]; done) | fail) only [r103_7, r103_10, r103_13, r103_14, r103_17, r103_20, r103_20n, r103_21, r103_22, r103_28, r103_88, hl16 hO, q103_25 kh ci, oGF_is, WPo_some, List.getElem?_cons_succ, List.getElem?_cons_zero, kil_n, kil_i, kil_a, kil_u, kil_l, Option.toList_some, Option.toList_none, List.cons_append, List.nil_append, List.set_cons_succ, List.set_cons_zero, addm1, Nat.reduceAdd, List.length_cons, List.length_nil, Nat.reduceLT, nI_clamp, nI_toInt, nI_leL, nI_Lle, nI_ltL, nI_Llt, nI_eqL, nI_Leq, nI_leE, nI_ltE, nI_eqE, nI_eqM, nI_add, nI_addL, nI_Ladd, nI_mulL, nI_Lmul, pk_mul, pk_sub, nI_subL, nI_Lsub, i2l_nI, Int.toNat_natCast, Nat.not_lt_zero, Nat.zero_le, ifT, ifF, not_true_eq_false, not_false_eq_true, if_true, if_false, or_self, and_self, true_and, and_true, or_true, true_or, false_or, or_false, false_and, and_false]
/-- where a run starts -/
noncomputable def stX (pl pr : Nat → Int64) : aMs := (fillF pl 0 20, pr, 0, false, 0, 0)
theorem c_run (hO : XO E ah A) (hb : 61 ≤ b ∧ b ≤ 67) (hH : dkH A S b kd wn nm ls wl cn) {D : Nat → aCd} (hD : dkOK D cn) (hI : ∀ i, i < cn → dkI kd wn nm ls wl i (D i)) {G : Nat → Nat} (hG : GG G) {hr : Bool} {pn : Nat} {pl pr : Nat → Int64} {k1 k2 k3 k4 : Int32} (hM : mlX A S hr pn pl pr k1 k2 k3 k4) : EV E (c + 6) 103 [.ref (A 16), .ref (A b)] (oh E ah A S) none (oh E ah A (mst A S (rnL G D cn 5001 0 (stX pl pr)).1 (rnL G D cn 5001 0 (stX pl pr)).2.1 (rnL G D cn 5001 0 (stX pl pr)).2.2.1 (rnL G D cn 5001 0 (stX pl pr)).2.2.2)) := by
  obtain ⟨hp, lv, at', m16, m17, m18⟩ := hM
  have kb : EV E (c + 5) 104 [.ref (A 16)] (oh E ah A S) none (oh E ah A (mst A S (stX pl pr) 0 (-1) 0)) := by
    refine e104 ?_
    have kf := c_fill (E := E) (c := c + 4) (ah := oh E ah A S) (a := A 17) (x := 0) (n := 20) (N := pl) (by decide) (by rw [hx_17 hO, m17])
    rw [sx_17 hO] at kf
    have g : ∀ e, hg E (oh E ah A (su S 17 e)) (A 16) = some (.inr (7, [.ref (A 17), .ref (A 18), .int (nI pn), .int (bI hr), .int lv, .int at', .int k1, .int k2, .int k3, .int k4])) := fun e => by rw [hx_16 hO, su_ne (by decide), m16]
    simp (disch := first | assumption | omega | decide | (simp only [List.length_cons, List.length_nil, Nat.reduceAdd, Nat.reduceLT]; done) | fail) only [r104_0, r104_1, r104_4, r104_8, r104_9, r104_10, r104_13, r104_14, r104_15, r104_18, r104_19, r104_20, r104_23, r104_24, r104_25, r104_28, r104_29, r104_30, r104_33, r104_34, r104_35, r104_38, r104_39, r104_40, r104_43, r104_44, r104_45, r104_48, hx_16 hO, sx_16 hO, m16, g, q104_5 kf, su_at, su_ne, su_su, pf_7033, pf_7020, pf_7043, pf_7050, pf_7060, pf_7070, pf_7080, pf_7090, oGF_is, WPo_some, List.getElem?_cons_succ, List.getElem?_cons_zero, kil_n, kil_i, kil_a, kil_u, kil_l, Option.toList_some, Option.toList_none, List.cons_append, List.nil_append, List.set_cons_succ, List.set_cons_zero, addm1, Nat.reduceAdd, List.length_cons, List.length_nil, Nat.reduceLT, not_true_eq_false, not_false_eq_true, if_true, if_false, or_self, and_self, true_and, and_true, or_true, true_or, false_or, or_false, false_and, and_false]
    congr 1
    funext q
    unfold mst stX su
    by_cases q16 : q = 16
    · simp [q16]; exact ⟨rfl, rfl, rfl⟩
    · by_cases q17 : q = 17
      · simp [q17]
      · by_cases q18 : q = 18
        · simp [q18, m18]
        · simp [q16, q17, q18]
  have ci : oCI (hg E (oh E ah A S) (A 16)) = 7 := by rw [hx_16 hO, m16]; rfl
  have l := l_rn (E := E) (c := c + 1) hO hb hH hD hI hG 5001 0 (stX pl pr) (by omega) ⟨fun i hi => by
    show bw (fillF pl 0 20 i)
    unfold bw fillF
    rw [if_pos hi]
    decide, Nat.zero_le _, Nat.zero_le _⟩
  refine e103 ?_
  simp (disch := first | assumption | omega | decide | (simp only [List.length_cons, List.length_nil, Nat.reduceAdd, Nat.reduceLT]; done) | fail) only [r103_0, r103_4, r103_5, q103_1 kb ci, oGF_is, WPo_some, List.getElem?_cons_succ, List.getElem?_cons_zero, kil_n, kil_i, kil_a, kil_u, kil_l, Option.toList_some, Option.toList_none, List.cons_append, List.nil_append, List.set_cons_succ, List.set_cons_zero, addm1, Nat.reduceAdd, List.length_cons, List.length_nil, Nat.reduceLT, not_true_eq_false, not_false_eq_true, if_true, if_false, or_self, and_self, true_and, and_true, or_true, true_or, false_or, or_false, false_and, and_false]
  exact l
theorem x_run_no (hO : XO E ah A) {tx sp : Nat} {eC tL s0 : Int32} (hX : S 0 = xO A tx sp 0 eC tL s0) : EV E c 165 [.ref (A 0)] (oh E ah A S) (some (.int (-1))) (oh E ah A (su S 0 (xO A tx sp 0 eC tL 8))) := by
  refine e165 ?_
  have hX' := hX
  unfold xO at hX' ⊢
  simp (disch := first | assumption | omega | decide | (simp only [List.length_cons, List.length_nil, Nat.reduceAdd, Nat.reduceLT]; done) | fail) only [r165_0, r165_1, r165_2, r165_5, r165_8, r165_9, r165_12, r165_14, r165_17, r165_18, r165_21, r165_24, r165_25, r165_26, r165_27, r165_30, r165_31, r165_37, r165_38, r165_44, hx_0 hO, sx_0 hO, hX', su_at, pf_10150, oGF_is, WPo_some, List.getElem?_cons_succ, List.getElem?_cons_zero, kil_n, kil_i, kil_a, kil_u, kil_l, Option.toList_some, Option.toList_none, List.cons_append, List.nil_append, List.set_cons_succ, List.set_cons_zero, addm1, Nat.reduceAdd, List.length_cons, List.length_nil, Nat.reduceLT, not_true_eq_false, not_false_eq_true, if_true, if_false, or_self, and_self, true_and, and_true, or_true, true_or, false_or, or_false, false_and, and_false, show ¬ (8 : Int32) = 0 by decide]
theorem x_run (hO : XO E ah A) {tx sp : Nat} {eC tL s0 : Int32} (hX : S 0 = xO A tx sp 1 eC tL s0) (hb : 61 ≤ tx ∧ tx ≤ 67) (hH : dkH A S tx kd wn nm ls wl cn) {D : Nat → aCd} (hD : dkOK D cn) (hI : ∀ i, i < cn → dkI kd wn nm ls wl i (D i)) {G : Nat → Nat} (hG : GG G) {hr : Bool} {pn : Nat} {pl pr : Nat → Int64} {k1 k2 k3 k4 : Int32} (hM : mlX A S hr pn pl pr k1 k2 k3 k4) : EV E (c + 7) 165 [.ref (A 0)] (oh E ah A S) (some (.int (nI (rnL G D cn 5001 0 (stX pl pr)).1.2.2.1))) (oh E ah A (mst A (su S 0 (xO A tx sp 1 eC tL 0)) (rnL G D cn 5001 0 (stX pl pr)).1 (rnL G D cn 5001 0 (stX pl pr)).2.1 (rnL G D cn 5001 0 (stX pl pr)).2.2.1 (rnL G D cn 5001 0 (stX pl pr)).2.2.2)) := by
  refine e165 ?_
  have hX' := hX
  have hM1 : mlX A (su S 0 (xO A tx sp 1 eC tL 0)) hr pn pl pr k1 k2 k3 k4 := by
    obtain ⟨hp, lv, at', m16, m17, m18⟩ := hM
    exact ⟨hp, lv, at', by rw [su_ne (by decide), m16], by rw [su_ne (by decide), m17], by rw [su_ne (by decide), m18]⟩
  have hH1 : dkH A (su S 0 (xO A tx sp 1 eC tL 0)) tx kd wn nm ls wl cn := by
    obtain ⟨h1, h2, h3, h4, h5, h6⟩ := hH
    exact ⟨by rw [su_ne (by omega), h1], by rw [su_ne (by omega), h2], by rw [su_ne (by omega), h3], by rw [su_ne (by omega), h4], by rw [su_ne (by omega), h5], by rw [su_ne (by omega), h6]⟩
  have k := c_run (E := E) (c := c) hO hb hH1 hD hI hG hM1
  have ci : oCI (hg E (oh E ah A (su S 0 (xO A tx sp 1 eC tL 0))) (A 16)) = 7 := by
    obtain ⟨hp, lv, at', m16, m17, m18⟩ := hM1
    rw [hx_16 hO, m16]; rfl
  generalize rnL G D cn 5001 0 (stX pl pr) = r at k ⊢
  obtain ⟨⟨P, R, pn', up, at', cr⟩, al, ac, dn⟩ := r
  dsimp only at k ⊢
  have g0 : hg E (oh E ah A (mst A (su S 0 (xO A tx sp 1 eC tL 0)) (P, R, pn', up, at', cr) al ac dn)) (A 0) = some (xO A tx sp 1 eC tL 0) := by rw [hx_0 hO, mst_ne (by omega), su_at]
  have kp : EV E (c + 6) 99 [.ref (A 16)] (oh E ah A (mst A (su S 0 (xO A tx sp 1 eC tL 0)) (P, R, pn', up, at', cr) al ac dn)) (some (.int (nI pn'))) (oh E ah A (mst A (su S 0 (xO A tx sp 1 eC tL 0)) (P, R, pn', up, at', cr) al ac dn)) := by
    refine e99 ?_
    simp (disch := first | assumption | omega | decide | (simp only [List.length_cons, List.length_nil, Nat.reduceAdd, Nat.reduceLT]; done) | fail) only [r99_0, r99_1, r99_4, hl16 hO, oGF_is, WPo_some, List.getElem?_cons_succ, List.getElem?_cons_zero, kil_n, kil_i, kil_a, kil_u, kil_l, Option.toList_some, Option.toList_none, List.cons_append, List.nil_append, List.set_cons_succ, List.set_cons_zero, addm1, Nat.reduceAdd, List.length_cons, List.length_nil, Nat.reduceLT, not_true_eq_false, not_false_eq_true, if_true, if_false, or_self, and_self, true_and, and_true, or_true, true_or, false_or, or_false, false_and, and_false]
  have g1 : hg E (oh E ah A (su S 0 (xO A tx sp 1 eC tL 0))) (A 0) = some (xO A tx sp 1 eC tL 0) := by rw [hx_0 hO, su_at]
  have ci2 := ml_ci (E := E) (S := su S 0 (xO A tx sp 1 eC tL 0)) (P := P) (R := R) (pn := pn') (up := up) (at' := at') (cr := cr) (al := al) (ac := ac) (dn := dn) hO
  unfold xO at hX' k kp ci ci2 g0 g1 ⊢
  simp (disch := first | assumption | omega | decide | (simp only [List.length_cons, List.length_nil, Nat.reduceAdd, Nat.reduceLT]; done) | fail) only [r165_0, r165_1, r165_2, r165_5, r165_8, r165_9, r165_12, r165_14, r165_17, r165_18, r165_21, r165_24, r165_25, r165_26, r165_27, r165_30, r165_31, r165_37, r165_38, r165_44, hx_0 hO, sx_0 hO, hX', mst_ne, su_at, pf_10150, q165_34 k ci, q165_41 kp ci2, oGF_is, WPo_some, List.getElem?_cons_succ, List.getElem?_cons_zero, kil_n, kil_i, kil_a, kil_u, kil_l, Option.toList_some, Option.toList_none, List.cons_append, List.nil_append, List.set_cons_succ, List.set_cons_zero, addm1, Nat.reduceAdd, List.length_cons, List.length_nil, Nat.reduceLT, not_true_eq_false, not_false_eq_true, if_true, if_false, or_self, and_self, true_and, and_true, or_true, true_or, false_or, or_false, false_and, and_false, show ¬ (1 : Int32) = 0 by decide]
end RNX

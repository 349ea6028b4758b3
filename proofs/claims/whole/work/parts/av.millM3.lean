/-! The model's run; the two runs are one -/
noncomputable def eqM (st st' : aMs) : Prop := (∀ i, i < 20 → st.1 i = st'.1 i) ∧ (∀ i, i < st.2.2.1 → st.2.1 i = st'.2.1 i) ∧ st.2.2 = st'.2.2
theorem eqM_upd {P P' : Nat → Int64} {k : Nat} {x x' : Int64} (h : ∀ i, i < 20 → P i = P' i) (hx : x = x') : ∀ i, i < 20 → vp_updL P k x i = vp_updL P' k x' i := fun i hi => by
  by_cases z : i = k
  · rw [z, vup_at, vup_at, hx]
  · rw [vup_ne z, vup_ne z, h i hi]
theorem alm_eq {C : aCd} (hC : cdOK C) {st st' : aMs} (h : eqM st st') : alm C st.1 st.2.2.1 = alm C st'.1 st'.2.2.1 := by
  obtain ⟨h1, h2, h3⟩ := h
  obtain ⟨o1, o2, o3, o4, -⟩ := hC
  rw [← h3]
  unfold alm
  by_cases h5 : C.1 ≤ 5
  · have a0 := o4 h5 0
    have a1 := o4 h5 1
    rw [h1 (C.2.2.1 0) (by omega), h1 (C.2.2.1 1) (by omega)]
  · rw [if_neg (by omega), if_neg (by omega), if_neg (by omega), if_neg (by omega), if_neg (by omega), if_neg (by omega), if_neg (by omega), if_neg (by omega), if_neg (by omega)]
theorem doS_eq {G : Nat → Nat} {C : aCd} (hC : cdOK C) {st st' : aMs} (h : eqM st st') : eqM (doS G C st) (doS G C st') := by
  obtain ⟨o1, o2, o3, o4, -⟩ := hC
  obtain ⟨P, R, q⟩ := st
  obtain ⟨P', R', q'⟩ := st'
  obtain ⟨h1, h2, h3⟩ := h
  dsimp only at h1 h2 h3
  subst h3
  obtain ⟨pn, up, at', cr⟩ := q
  dsimp only at h2
  by_cases h5 : C.1 ≤ 5
  · have a0 := o4 h5 0
    have a1 := o4 h5 1
    have e0 := h1 (C.2.2.1 0) (by omega)
    have e1 := h1 (C.2.2.1 1) (by omega)
    rcases (show C.1 = 0 ∨ C.1 = 1 ∨ C.1 = 2 ∨ C.1 = 3 ∨ C.1 = 4 ∨ C.1 = 5 by omega) with k | k | k | k | k | k
    · have eD : ∀ st, doS G C st = (vp_updL st.1 (C.2.2.1 0) C.2.2.2.2, st.2.1, st.2.2.1, st.2.2.2.1, st.2.2.2.2.1 + 1, st.2.2.2.2.2 + 1) := fun st => by unfold doS; rw [if_pos k]
      rw [eD, eD]
      exact ⟨eqM_upd h1 rfl, h2, rfl⟩
    · have eD : ∀ st, doS G C st = ccl C st (st.1 (C.2.2.1 0) + st.1 (C.2.2.1 1)) 2 := fun st => by unfold doS; rw [if_neg (by omega), if_pos k]
      rw [eD, eD]
      dsimp only
      rw [e0, e1]
      unfold ccl
      dsimp only
      exact ⟨eqM_upd h1 rfl, h2, rfl⟩
    · have eD : ∀ st, doS G C st = ccl C st (st.1 (C.2.2.1 0) - st.1 (C.2.2.1 1)) 2 := fun st => by unfold doS; rw [if_neg (by omega), if_neg (by omega), if_pos k]
      rw [eD, eD]
      dsimp only
      rw [e0, e1]
      unfold ccl
      dsimp only
      exact ⟨eqM_upd h1 rfl, h2, rfl⟩
    · have eD : ∀ st, doS G C st = ccl C st (st.1 (C.2.2.1 0) * st.1 (C.2.2.1 1)) (2 + nI (G (st.1 (C.2.2.1 0)).toInt.natAbs)) := fun st => by unfold doS; rw [if_neg (by omega), if_neg (by omega), if_neg (by omega), if_pos k]
      rw [eD, eD]
      dsimp only
      rw [e0, e1]
      unfold ccl
      dsimp only
      exact ⟨eqM_upd h1 rfl, h2, rfl⟩
    · have eD : ∀ st, doS G C st = ((vp_updL (ccl C st (st.1 (C.2.2.1 0) / st.1 (C.2.2.1 1)) 0).1 (C.2.2.1 3) (st.1 (C.2.2.1 0) - st.1 (C.2.2.1 0) / st.1 (C.2.2.1 1) * st.1 (C.2.2.1 1))), st.2.1, st.2.2.1, decide (st.1 (C.2.2.1 0) / st.1 (C.2.2.1 1) < 0), st.2.2.2.2.1 + 1, st.2.2.2.2.2 + (3 + nI (G (st.1 (C.2.2.1 0) / st.1 (C.2.2.1 1)).toInt.natAbs))) := fun st => by unfold doS; rw [if_neg (by omega), if_neg (by omega), if_neg (by omega), if_neg (by omega), if_pos k]
      rw [eD, eD]
      dsimp only
      simp only [e0, e1]
      unfold ccl
      dsimp only
      exact ⟨eqM_upd (eqM_upd h1 rfl) rfl, h2, rfl⟩
    · have eD : ∀ st, doS G C st = (st.1, vp_updL st.2.1 st.2.2.1 (st.1 (C.2.2.1 0)), st.2.2.1 + 1, st.2.2.2.1, st.2.2.2.2.1 + 1, st.2.2.2.2.2 + 1) := fun st => by unfold doS; rw [if_neg (by omega), if_neg (by omega), if_neg (by omega), if_neg (by omega), if_neg (by omega), if_pos k]
      rw [eD, eD]
      dsimp only
      rw [e0]
      refine ⟨h1, fun i hi => ?_, rfl⟩
      show vp_updL R pn _ i = vp_updL R' pn _ i
      by_cases z : i = pn
      · rw [z, vup_at, vup_at]
      · rw [vup_ne z, vup_ne z, h2 i (by have : i < pn + 1 := hi; omega)]
  · have eD : ∀ st, doS G C st = ldS C st := fun st => by unfold doS; rw [if_neg (by omega), if_neg (by omega), if_neg (by omega), if_neg (by omega), if_neg (by omega), if_neg (by omega)]
    rw [eD, eD]
    unfold ldS
    dsimp only
    by_cases w : (C.2.1 = 1 ∧ up = false) ∨ (C.2.1 = 2 ∧ up = true)
    · rw [if_pos w, if_pos w]
      exact ⟨h1, h2, rfl⟩
    · rw [if_neg w, if_neg w]
      by_cases k6 : C.1 = 6
      · rw [if_pos k6, if_pos k6]
        exact ⟨h1, h2, rfl⟩
      · rw [if_neg k6, if_neg k6]
        exact ⟨h1, h2, rfl⟩
theorem rnL_eq {G : Nat → Nat} {D : Nat → aCd} {cn : Nat} (hD : ∀ i, i < cn → cdOK (D i)) : ∀ z dn st st', eqM st st' → eqM (rnL G D cn z dn st).1 (rnL G D cn z dn st').1 ∧ (rnL G D cn z dn st).2 = (rnL G D cn z dn st').2
  | 0, dn, st, st', h => ⟨h, rfl⟩
  | z + 1, dn, st, st', h => by
    have e : st.2.2.2.2.1 = st'.2.2.2.2.1 := by rw [h.2.2]
    unfold rnL
    by_cases y : st.2.2.2.2.1 < cn
    · have hC := hD _ y
      have ea := alm_eq hC h
      rw [← e, if_pos y, if_pos y, ← ea]
      split
      · exact ⟨h, rfl⟩
      · split
        · exact rnL_eq hD z (dn + 1) _ _ (doS_eq hC h)
        · exact ⟨h, rfl⟩
    · rw [← e, if_neg y, if_neg y]
      exact ⟨h, rfl⟩
section MRN
variable {E : aEnv} {c m : Nat} {ah : aHp} {ma : Nat → Nat} {v : Nat → Value} {ai : Nat → Nat → Int32} {al : Nat → Nat → Int64} {cn : Nat}
noncomputable def frN (v v' : Nat → Value) (ai ai' : Nat → Nat → Int32) (al al' : Nat → Nat → Int64) : Prop := (∀ k, ¬ (61 ≤ k ∧ k ≤ 66) → v' k = v k) ∧ (∀ k, ¬ (67 ≤ k ∧ k ≤ 69) → ai' k = ai k) ∧ ∀ k, k ≠ 58 → k ≠ 59 → al' k = al k
theorem mMs_vu {st : aMs} {k : Nat} {x : Value} (hk : 64 ≤ k) (h : mMs v al st) : mMs (vu v k x) al st := by
  obtain ⟨a1, a2, a3, a4, a5⟩ := h
  exact ⟨a1, a2, by rw [vu_ne (by omega)]; exact a3, by rw [vu_ne (by omega)]; exact a4, by rw [vu_ne (by omega)]; exact a5⟩
theorem l_mr (h : MO E ah m ma) {D : Nat → aCd} (hD : dkOK D cn) {G : Nat → Nat} (hG : GG G) : ∀ z dn st v ai al, dn + z = 5001 → dn ≤ 5000 → okM st cn → mMs v al st → v 41 = .int (nI cn) → v 64 = .int 0 → v 65 = .int (-1) → v 66 = .int (nI dn) → (∀ i, i < cn → mkJ ai al i (D i)) → bB (ai 45) → ∃ v' ai' al', WP E (c + 3) 258 82 [some (.ref m), some (.int (nI st.2.2.2.2.1))] [] (mh E ah m ma v ai al) (fun r x => r = some (.int (nI (rnL G D cn z dn st).1.2.2.1)) ∧ x = mh E ah m ma v' ai' al') ∧ mMs v' al' (rnL G D cn z dn st).1 ∧ v' 64 = .int (nI (rnL G D cn z dn st).2.1) ∧ v' 65 = .int (rnL G D cn z dn st).2.2.1 ∧ v' 66 = .int (nI (rnL G D cn z dn st).2.2.2) ∧ frN v v' ai ai' al al'
  | 0, dn, st, v, ai, al, hz, h5, hst, hM, h41, h64, h65, h66, hJ, hB => absurd hz (by omega)
  | z + 1, dn, st, v, ai, al, hz, h5, hst, hM, h41, h64, h65, h66, hJ, hB => by
    have hc := hD.1
    have hat40 : st.2.2.2.2.1 ≤ 40 := Nat.le_trans hst.2.2 hc
    have hM0 := hM
    obtain ⟨m1, m2, m3, m4, m5⟩ := hM
    have p40 := hst.2.1
    -- an alarm ends the run
    have stop : ∀ a : Nat, ¬ a = 0 → a ≤ 4 → WP E (c + 3) 258 82 [some (.ref m), some (.int (nI st.2.2.2.2.1))] [] (mh E ah m ma (vu (vu v 64 (.int (nI a))) 65 (.int (nI st.2.2.2.2.1))) ai al) (fun r x => r = some (.int (nI st.2.2.1)) ∧ x = mh E ah m ma (vu (vu v 64 (.int (nI a))) 65 (.int (nI st.2.2.2.2.1))) ai al) := by
      intro a ha ha4
      have g64 : vu (vu v 64 (.int (nI a))) 65 (.int (nI st.2.2.2.2.1)) 64 = .int (nI a) := by rw [vu_ne (by decide), vu_at]
      have g62 : vu (vu v 64 (.int (nI a))) 65 (.int (nI st.2.2.2.2.1)) 62 = .int (nI st.2.2.1) := by rw [vu_ne (by decide), vu_ne (by decide)]; exact m3
      rw [r258_82]
      simp (disch := first | assumption | omega | decide | (simp only [List.length_cons, List.length_nil, Nat.reduceAdd, Nat.reduceLT]; done) | fail) only [r258_83, r258_86, r258_154, r258_155, r258_158, mh_o h, gm_64, gm_62, g64, g62, ha, WPo_some, List.getElem?_cons_succ, List.getElem?_cons_zero, kil_n, kil_i, kil_a, kil_u, kil_l, Option.toList_some, Option.toList_none, List.cons_append, List.nil_append, List.set_cons_succ, List.set_cons_zero, addm1, Nat.reduceAdd, List.length_cons, List.length_nil, Nat.reduceLT, nI_clamp, nI_toInt, nI_leL, nI_Lle, nI_ltL, nI_Llt, nI_eqL, nI_Leq, nI_leE, nI_ltE, nI_eqE, nI_eqM, nI_add, nI_addL, nI_Ladd, nI_mulL, nI_Lmul, pk_mul, pk_sub, nI_subL, nI_Lsub, i2l_nI, Int.toNat_natCast, Nat.not_lt_zero, Nat.zero_le, ifT, ifF, not_true_eq_false, not_false_eq_true, if_true, if_false, or_self, and_self, true_and, and_true, or_true, true_or, false_or, or_false, false_and, and_false]
    have fr : ∀ a : Nat, frN v (vu (vu v 64 (.int (nI a))) 65 (.int (nI st.2.2.2.2.1))) ai ai al al := fun a => ⟨fun k hk => by rw [vu_ne (by omega), vu_ne (by omega)], fun _ _ => rfl, fun _ _ _ => rfl⟩
    have g66 : ∀ a : Nat, vu (vu v 64 (.int (nI a))) 65 (.int (nI st.2.2.2.2.1)) 66 = .int (nI dn) := fun a => by rw [vu_ne (by decide), vu_ne (by decide)]; exact h66
    have g64 : ∀ a : Nat, vu (vu v 64 (.int (nI a))) 65 (.int (nI st.2.2.2.2.1)) 64 = .int (nI a) := fun a => by rw [vu_ne (by decide), vu_at]
    unfold rnL
    by_cases y : st.2.2.2.2.1 < cn
    · rw [if_pos y]
      by_cases y5 : dn = 5000
      · rw [if_pos y5]
        refine ⟨vu (vu v 64 (.int (nI 4))) 65 (.int (nI st.2.2.2.2.1)), ai, al, ?_, mMs_vu (by decide) (mMs_vu (by decide) hM0), g64 4, vu_at, g66 4, fr 4⟩
        have s := stop 4 (by decide) (by decide)
        rw [show nI 4 = (4 : Int32) from rfl] at s ⊢
        rw [r258_82]
        simp (disch := first | assumption | omega | decide | (simp only [List.length_cons, List.length_nil, Nat.reduceAdd, Nat.reduceLT]; done) | fail) only [r258_83, r258_86, r258_89, r258_90, r258_91, r258_94, r258_97, r258_98, r258_99, r258_102, r258_105, r258_108, r258_109, r258_112, r258_113, r258_117, r258_120, r258_121, r258_124, r258_127, r258_128, r258_129, r258_132, mh_o h, mh_put h, gm_64, gm_41, gm_66, pm_64, pm_65, h64, h41, h66, vu_at, eq_true y5, WPo_some, List.getElem?_cons_succ, List.getElem?_cons_zero, kil_n, kil_i, kil_a, kil_u, kil_l, Option.toList_some, Option.toList_none, List.cons_append, List.nil_append, List.set_cons_succ, List.set_cons_zero, addm1, Nat.reduceAdd, List.length_cons, List.length_nil, Nat.reduceLT, nI_clamp, nI_toInt, nI_leL, nI_Lle, nI_ltL, nI_Llt, nI_eqL, nI_Leq, nI_leE, nI_ltE, nI_eqE, nI_eqM, nI_add, nI_addL, nI_Ladd, nI_mulL, nI_Lmul, pk_mul, pk_sub, nI_subL, nI_Lsub, i2l_nI, Int.toNat_natCast, Nat.not_lt_zero, Nat.zero_le, ifT, ifF, not_true_eq_false, not_false_eq_true, if_true, if_false, or_self, and_self, true_and, and_true, or_true, true_or, false_or, or_false, false_and, and_false, show ¬ (4 : Int32) ≤ 0 by decide]
        exact s
      · rw [if_neg y5]
        have ka := m_alarms (E := E) (c := c) (v := v) h hc hst y (hJ _ y) (hD.2 _ y).1 hB hM0
        have a3 := alm_le (C := D st.2.2.2.2.1) (P := st.1) (pn := st.2.2.1)
        by_cases ya : alm (D st.2.2.2.2.1) st.1 st.2.2.1 = 0
        · rw [if_pos ya]
          rw [ya] at ka
          have v64 : vu v 64 (.int (nI 0)) = v := by rw [show (.int (nI 0) : Value) = v 64 from h64.symm]; exact vu_self
          obtain ⟨v1, ai1, al1, kd, M1, F1⟩ := m_does (E := E) (c := c) (v := vu v 66 (.int (nI (dn + 1)))) h hc hst y (hJ _ y) (hD.2 _ y).1 (hD.2 _ y).2 (mMs_vu (by decide) hM0) hG ya
          obtain ⟨f1, f2, f3⟩ := F1
          obtain ⟨v2, ai2, al2, w, M2, q1, q2, q3, F2⟩ := l_mr h hD hG z (dn + 1) (doS G (D st.2.2.2.2.1) st) v1 ai1 al1 (by omega) (by omega) (okM_do hst (hD.2 _ y).1 (hD.2 _ y).2 y ya) M1 (by rw [f1 41 (by omega), vu_ne (by decide)]; exact h41) (by rw [f1 64 (by omega), vu_ne (by decide)]; exact h64) (by rw [f1 65 (by omega), vu_ne (by decide)]; exact h65) (by rw [f1 66 (by omega), vu_at]) (fun i hi => by
            obtain ⟨d1, d2, d3, d4, d5, d6, d7, d8⟩ := hJ i hi
            exact ⟨by rw [f2 43 (by omega)]; exact d1, by rw [f2 48 (by omega)]; exact d2, fun z => by rw [f2 44 (by omega)]; exact d3 z, fun z => by rw [f2 45 (by omega)]; exact d4 z, fun z => by rw [f2 46 (by omega)]; exact d5 z, fun z => by rw [f2 47 (by omega)]; exact d6 z, fun z => by rw [f2 44 (by omega)]; exact d7 z, fun z => by rw [f3 56 (by decide) (by decide)]; exact d8 z⟩) (by rw [f2 45 (by omega)]; exact hB)
          refine ⟨v2, ai2, al2, ?_, M2, q1, q2, q3, fun k hk => by rw [F2.1 k hk, f1 k (by omega), vu_ne (by omega)], fun k hk => by rw [F2.2.1 k hk, f2 k hk], fun k k1 k2 => by rw [F2.2.2 k k1 k2, f3 k k1 k2]⟩
          rw [show nI 0 = (0 : Int32) from rfl] at v64 ka
          rw [r258_82]
          simp (disch := first | assumption | omega | decide | (simp only [List.length_cons, List.length_nil, Nat.reduceAdd, Nat.reduceLT]; done) | fail) only [r258_83, r258_86, r258_89, r258_90, r258_91, r258_94, r258_97, r258_98, r258_99, r258_102, r258_105, r258_108, r258_109, r258_112, r258_113, r258_117, r258_120, r258_121, r258_124, r258_127, r258_128, r258_129, r258_132, r258_135, r258_136, r258_136i, r258_137, r258_140, r258_141, r258_142, r258_145, r258_146, r258_150, r258_151, mh_o h, mh_put h, gm_64, gm_41, gm_66, pm_64, pm_66, h64, h41, h66, v64, q258_114 ka h.ci, q258_147 kd h.ci, y5, WPo_some, List.getElem?_cons_succ, List.getElem?_cons_zero, kil_n, kil_i, kil_a, kil_u, kil_l, Option.toList_some, Option.toList_none, List.cons_append, List.nil_append, List.set_cons_succ, List.set_cons_zero, addm1, Nat.reduceAdd, List.length_cons, List.length_nil, Nat.reduceLT, nI_clamp, nI_toInt, nI_leL, nI_Lle, nI_ltL, nI_Llt, nI_eqL, nI_Leq, nI_leE, nI_ltE, nI_eqE, nI_eqM, nI_add, nI_addL, nI_Ladd, nI_mulL, nI_Lmul, pk_mul, pk_sub, nI_subL, nI_Lsub, i2l_nI, Int.toNat_natCast, Nat.not_lt_zero, Nat.zero_le, ifT, ifF, not_true_eq_false, not_false_eq_true, if_true, if_false, or_self, and_self, true_and, and_true, or_true, true_or, false_or, or_false, false_and, and_false, show (0 : Int32) ≤ 0 by decide]
          exact w
        · rw [if_neg ya]
          generalize alm (D st.2.2.2.2.1) st.1 st.2.2.1 = a at ka ya a3 ⊢
          refine ⟨vu (vu v 64 (.int (nI a))) 65 (.int (nI st.2.2.2.2.1)), ai, al, ?_, mMs_vu (by decide) (mMs_vu (by decide) hM0), g64 a, vu_at, g66 a, fr a⟩
          have s := stop a ya (by omega)
          rw [r258_82]
          simp (disch := first | assumption | omega | decide | (simp only [List.length_cons, List.length_nil, Nat.reduceAdd, Nat.reduceLT]; done) | fail) only [r258_83, r258_86, r258_89, r258_90, r258_91, r258_94, r258_97, r258_98, r258_99, r258_102, r258_105, r258_108, r258_109, r258_112, r258_113, r258_117, r258_120, r258_121, r258_124, r258_127, r258_128, r258_129, r258_132, mh_o h, mh_put h, gm_64, gm_41, gm_66, pm_64, pm_65, h64, h41, h66, vu_at, q258_114 ka h.ci, y5, show ¬ a ≤ 0 by omega, WPo_some, List.getElem?_cons_succ, List.getElem?_cons_zero, kil_n, kil_i, kil_a, kil_u, kil_l, Option.toList_some, Option.toList_none, List.cons_append, List.nil_append, List.set_cons_succ, List.set_cons_zero, addm1, Nat.reduceAdd, List.length_cons, List.length_nil, Nat.reduceLT, nI_clamp, nI_toInt, nI_leL, nI_Lle, nI_ltL, nI_Llt, nI_eqL, nI_Leq, nI_leE, nI_ltE, nI_eqE, nI_eqM, nI_add, nI_addL, nI_Ladd, nI_mulL, nI_Lmul, pk_mul, pk_sub, nI_subL, nI_Lsub, i2l_nI, Int.toNat_natCast, Nat.not_lt_zero, Nat.zero_le, ifT, ifF, not_true_eq_false, not_false_eq_true, if_true, if_false, or_self, and_self, true_and, and_true, or_true, true_or, false_or, or_false, false_and, and_false]
          exact s
    · rw [if_neg y]
      refine ⟨v, ai, al, ?_, hM0, h64, h65, h66, fun _ _ => rfl, fun _ _ => rfl, fun _ _ _ => rfl⟩
      rw [r258_82]
      simp (disch := first | assumption | omega | decide | (simp only [List.length_cons, List.length_nil, Nat.reduceAdd, Nat.reduceLT]; done) | fail) only [r258_83, r258_86, r258_89, r258_90, r258_91, r258_94, r258_154, r258_155, r258_158, mh_o h, gm_64, gm_41, gm_62, h64, h41, m3, WPo_some, List.getElem?_cons_succ, List.getElem?_cons_zero, kil_n, kil_i, kil_a, kil_u, kil_l, Option.toList_some, Option.toList_none, List.cons_append, List.nil_append, List.set_cons_succ, List.set_cons_zero, addm1, Nat.reduceAdd, List.length_cons, List.length_nil, Nat.reduceLT, nI_clamp, nI_toInt, nI_leL, nI_Lle, nI_ltL, nI_Llt, nI_eqL, nI_Leq, nI_leE, nI_ltE, nI_eqE, nI_eqM, nI_add, nI_addL, nI_Ladd, nI_mulL, nI_Lmul, pk_mul, pk_sub, nI_subL, nI_Lsub, i2l_nI, Int.toNat_natCast, Nat.not_lt_zero, Nat.zero_le, ifT, ifF, not_true_eq_false, not_false_eq_true, if_true, if_false, or_self, and_self, true_and, and_true, or_true, true_or, false_or, or_false, false_and, and_false]
theorem l_mz (h : MO E ah m ma) {P : Nat → Int64} {Q : Option Value → aHp → Prop} (K : WP E c 258 45 [some (.ref m), some (.int 20)] [] (mh E ah m ma v ai (lu al 58 (ovr P 0 20 (fun _ => 0)))) Q) : ∀ z i, i + z = 20 → WP E c 258 26 [some (.ref m), some (.int (nI i))] [] (mh E ah m ma v ai (lu al 58 (ovr P 0 i (fun _ => 0)))) Q
  | 0, i, hz => by
    rw [show i = 20 by omega, r258_26]
    simp (disch := first | assumption | omega | decide | (simp only [List.length_cons, List.length_nil, Nat.reduceAdd, Nat.reduceLT]; done) | fail) only [r258_27, r258_29, WPo_some, List.getElem?_cons_succ, List.getElem?_cons_zero, kil_n, kil_i, kil_a, kil_u, kil_l, Option.toList_some, Option.toList_none, List.cons_append, List.nil_append, List.set_cons_succ, List.set_cons_zero, addm1, Nat.reduceAdd, List.length_cons, List.length_nil, Nat.reduceLT, nI_clamp, nI_toInt, nI_leL, nI_Lle, nI_ltL, nI_Llt, nI_eqL, nI_Leq, nI_leE, nI_ltE, nI_eqE, nI_eqM, nI_add, nI_addL, nI_Ladd, nI_mulL, nI_Lmul, pk_mul, pk_sub, nI_subL, nI_Lsub, i2l_nI, Int.toNat_natCast, Nat.not_lt_zero, Nat.zero_le, ifT, ifF, not_true_eq_false, not_false_eq_true, if_true, if_false, or_self, and_self, true_and, and_true, or_true, true_or, false_or, or_false, false_and, and_false]
    exact K
  | z + 1, i, hz => by
    have ih := l_mz h K z (i + 1) (by omega)
    have m2 := vupd_ovr (F := P) (i := i) (h := fun _ => (0 : Int64)) (x := 0) rfl
    rw [r258_26]
    simp (disch := first | assumption | omega | decide | (simp only [List.length_cons, List.length_nil, Nat.reduceAdd, Nat.reduceLT]; done) | fail) only [r258_27, r258_29, r258_32, r258_33, r258_36, r258_37, r258_38, r258_39, r258_42, mh_o h, gm_58, pL, hm_58 h, sm_58 h, lu_at, lu_lu, m2, WPo_some, List.getElem?_cons_succ, List.getElem?_cons_zero, kil_n, kil_i, kil_a, kil_u, kil_l, Option.toList_some, Option.toList_none, List.cons_append, List.nil_append, List.set_cons_succ, List.set_cons_zero, addm1, Nat.reduceAdd, List.length_cons, List.length_nil, Nat.reduceLT, nI_clamp, nI_toInt, nI_leL, nI_Lle, nI_ltL, nI_Llt, nI_eqL, nI_Leq, nI_leE, nI_ltE, nI_eqE, nI_eqM, nI_add, nI_addL, nI_Ladd, nI_mulL, nI_Lmul, pk_mul, pk_sub, nI_subL, nI_Lsub, i2l_nI, Int.toNat_natCast, Nat.not_lt_zero, Nat.zero_le, ifT, ifF, not_true_eq_false, not_false_eq_true, if_true, if_false, or_self, and_self, true_and, and_true, or_true, true_or, false_or, or_false, false_and, and_false]
    exact ih
noncomputable def stM (pl pr : Nat → Int64) : aMs := (ovr pl 0 20 (fun _ => 0), pr, 0, false, 0, 0)
theorem stXM {pl pr pl' pr' : Nat → Int64} : eqM (stX pl pr) (stM pl' pr') := ⟨fun i hi => by
  show fillF pl 0 20 i = ovr pl' 0 20 (fun _ => 0) i
  rw [ovr0_in hi]
  exact if_pos hi, fun i hi => absurd hi (Nat.not_lt_zero _), rfl⟩
theorem m_run_no (h : MO E ah m ma) (h41 : v 41 = .int (-1)) : EV E (c + 1) 258 [.ref m] (mh E ah m ma v ai al) (some (.int (-1))) (mh E ah m ma (vu (vu v 1 (.int 0)) 0 (.int 8)) ai al) := by
  refine e258 ?_
  have g : vu (vu v 1 (.int 0)) 0 (.int 0) 41 = .int (-1) := by rw [vu_ne (by decide), vu_ne (by decide)]; exact h41
  simp (disch := first | assumption | omega | decide | (simp only [List.length_cons, List.length_nil, Nat.reduceAdd, Nat.reduceLT]; done) | fail) only [r258_0, r258_1, r258_2, r258_5, r258_6, r258_7, r258_10, r258_11, r258_14, r258_17, r258_18, r258_23, mh_o h, mh_put h, pm_1, pm_0, gm_41, g, q258_20 (m_refuse h) h.ci, vu_vu, WPo_some, List.getElem?_cons_succ, List.getElem?_cons_zero, kil_n, kil_i, kil_a, kil_u, kil_l, Option.toList_some, Option.toList_none, List.cons_append, List.nil_append, List.set_cons_succ, List.set_cons_zero, addm1, Nat.reduceAdd, List.length_cons, List.length_nil, Nat.reduceLT, not_true_eq_false, not_false_eq_true, if_true, if_false, or_self, and_self, true_and, and_true, or_true, true_or, false_or, or_false, false_and, and_false, show ¬ (0 : Int32) ≤ -1 by decide]
theorem m_run (h : MO E ah m ma) {D : Nat → aCd} (hD : dkOK D cn) {G : Nat → Nat} (hG : GG G) (h41 : v 41 = .int (nI cn)) (hJ : ∀ i, i < cn → mkJ ai al i (D i)) (hB : bB (ai 45)) : ∃ v' ai' al', EV E (c + 3) 258 [.ref m] (mh E ah m ma v ai al) (some (.int (nI (rnL G D cn 5001 0 (stM (al 58) (al 59))).1.2.2.1))) (mh E ah m ma v' ai' al') ∧ mMs v' al' (rnL G D cn 5001 0 (stM (al 58) (al 59))).1 ∧ v' 0 = .int 0 ∧ v' 1 = .int 0 ∧ v' 60 = .int 1 ∧ v' 64 = .int (nI (rnL G D cn 5001 0 (stM (al 58) (al 59))).2.1) ∧ v' 65 = .int (rnL G D cn 5001 0 (stM (al 58) (al 59))).2.2.1 ∧ v' 66 = .int (nI (rnL G D cn 5001 0 (stM (al 58) (al 59))).2.2.2) ∧ (∀ k, ¬ (k ≤ 1 ∨ (60 ≤ k ∧ k ≤ 66)) → v' k = v k) ∧ (∀ k, ¬ (67 ≤ k ∧ k ≤ 69) → ai' k = ai k) ∧ ∀ k, k ≠ 58 → k ≠ 59 → al' k = al k := by
  have hc := hD.1
  obtain ⟨v0, hv0⟩ : ∃ v0, vu (vu (vu (vu (vu (vu (vu (vu (vu v 1 (.int 0)) 0 (.int 0)) 60 (.int 1)) 61 (.int 0)) 62 (.int 0)) 63 (.int 0)) 64 (.int 0)) 65 (.int (-1))) 66 (.int 0) = v0 := ⟨_, rfl⟩
  have z0 : v0 0 = .int 0 := by rw [← hv0]; simp (disch := first | assumption | omega | decide | (simp only [List.length_cons, List.length_nil, Nat.reduceAdd, Nat.reduceLT]; done) | fail) only [vu_ne, vu_at]
  have z1 : v0 1 = .int 0 := by rw [← hv0]; simp (disch := first | assumption | omega | decide | (simp only [List.length_cons, List.length_nil, Nat.reduceAdd, Nat.reduceLT]; done) | fail) only [vu_ne, vu_at]
  have z60 : v0 60 = .int 1 := by rw [← hv0]; simp (disch := first | assumption | omega | decide | (simp only [List.length_cons, List.length_nil, Nat.reduceAdd, Nat.reduceLT]; done) | fail) only [vu_ne, vu_at]
  have z61 : v0 61 = .int 0 := by rw [← hv0]; simp (disch := first | assumption | omega | decide | (simp only [List.length_cons, List.length_nil, Nat.reduceAdd, Nat.reduceLT]; done) | fail) only [vu_ne, vu_at]
  have z62 : v0 62 = .int 0 := by rw [← hv0]; simp (disch := first | assumption | omega | decide | (simp only [List.length_cons, List.length_nil, Nat.reduceAdd, Nat.reduceLT]; done) | fail) only [vu_ne, vu_at]
  have z63 : v0 63 = .int 0 := by rw [← hv0]; simp (disch := first | assumption | omega | decide | (simp only [List.length_cons, List.length_nil, Nat.reduceAdd, Nat.reduceLT]; done) | fail) only [vu_ne, vu_at]
  have z64 : v0 64 = .int 0 := by rw [← hv0]; simp (disch := first | assumption | omega | decide | (simp only [List.length_cons, List.length_nil, Nat.reduceAdd, Nat.reduceLT]; done) | fail) only [vu_ne, vu_at]
  have z65 : v0 65 = .int (-1) := by rw [← hv0]; simp (disch := first | assumption | omega | decide | (simp only [List.length_cons, List.length_nil, Nat.reduceAdd, Nat.reduceLT]; done) | fail) only [vu_ne, vu_at]
  have z66 : v0 66 = .int 0 := by rw [← hv0]; simp (disch := first | assumption | omega | decide | (simp only [List.length_cons, List.length_nil, Nat.reduceAdd, Nat.reduceLT]; done) | fail) only [vu_ne, vu_at]
  have zn : ∀ k, ¬ (k ≤ 1 ∨ (60 ≤ k ∧ k ≤ 66)) → v0 k = v k := fun k hk => by rw [← hv0, vu_ne (by omega), vu_ne (by omega), vu_ne (by omega), vu_ne (by omega), vu_ne (by omega), vu_ne (by omega), vu_ne (by omega), vu_ne (by omega), vu_ne (by omega)]
  obtain ⟨v', ai', al', w, M2, q1, q2, q3, F⟩ := l_mr (E := E) (c := c) h hD hG 5001 0 (stM (al 58) (al 59)) v0 ai (lu al 58 (ovr (al 58) 0 20 (fun _ => 0))) (by omega) (by omega) ⟨fun i hi => by
    show bw (ovr (al 58) 0 20 (fun _ => 0) i)
    rw [ovr0_in hi]
    unfold bw
    decide, Nat.zero_le _, Nat.zero_le _⟩ ⟨lu_at, lu_ne (by decide), z62, z61, z63⟩ (by rw [zn 41 (by omega)]; exact h41) z64 z65 z66 (fun i hi => by
      obtain ⟨d1, d2, d3, d4, d5, d6, d7, d8⟩ := hJ i hi
      exact ⟨d1, d2, d3, d4, d5, d6, d7, fun z => by rw [lu_ne (by decide)]; exact d8 z⟩) hB
  refine ⟨v', ai', al', e258 ?_, M2, by rw [F.1 0 (by omega)]; exact z0, by rw [F.1 1 (by omega)]; exact z1, by rw [F.1 60 (by omega)]; exact z60, q1, q2, q3, fun k hk => by rw [F.1 k (by omega), zn k hk], F.2.1, fun k k1 k2 => by rw [F.2.2 k k1 k2, lu_ne k1]⟩
  have g : vu (vu v 1 (.int 0)) 0 (.int 0) 41 = .int (nI cn) := by rw [vu_ne (by decide), vu_ne (by decide)]; exact h41
  have l := l_mz (E := E) (c := c + 3) (v := vu (vu v 1 (.int 0)) 0 (.int 0)) (ai := ai) (al := al) h (P := al 58) (Q := fun r x => r = some (.int (nI (rnL G D cn 5001 0 (stM (al 58) (al 59))).1.2.2.1)) ∧ x = mh E ah m ma v' ai' al') (by
    simp (disch := first | assumption | omega | decide | (simp only [List.length_cons, List.length_nil, Nat.reduceAdd, Nat.reduceLT]; done) | fail) only [r258_45, r258_46, r258_47, r258_50, r258_51, r258_52, r258_55, r258_56, r258_57, r258_60, r258_61, r258_62, r258_65, r258_66, r258_67, r258_70, r258_71, r258_72, r258_75, r258_76, r258_77, r258_80, r258_81, mh_o h, mh_put h, pm_60, pm_61, pm_62, pm_63, pm_64, pm_65, pm_66, hv0, WPo_some, List.getElem?_cons_succ, List.getElem?_cons_zero, kil_n, kil_i, kil_a, kil_u, kil_l, Option.toList_some, Option.toList_none, List.cons_append, List.nil_append, List.set_cons_succ, List.set_cons_zero, addm1, Nat.reduceAdd, List.length_cons, List.length_nil, Nat.reduceLT, not_true_eq_false, not_false_eq_true, if_true, if_false, or_self, and_self, true_and, and_true, or_true, true_or, false_or, or_false, false_and, and_false]
    exact w) 20 0 (by omega)
  rw [ovr_0, lu_self] at l
  simp (disch := first | assumption | omega | decide | (simp only [List.length_cons, List.length_nil, Nat.reduceAdd, Nat.reduceLT]; done) | fail) only [r258_0, r258_1, r258_2, r258_5, r258_6, r258_7, r258_10, r258_11, r258_14, r258_17, r258_18, r258_23, r258_24, r258_25, mh_o h, mh_put h, pm_1, pm_0, gm_41, g, nI_pos, WPo_some, List.getElem?_cons_succ, List.getElem?_cons_zero, kil_n, kil_i, kil_a, kil_u, kil_l, Option.toList_some, Option.toList_none, List.cons_append, List.nil_append, List.set_cons_succ, List.set_cons_zero, addm1, Nat.reduceAdd, List.length_cons, List.length_nil, Nat.reduceLT, nI_clamp, nI_toInt, nI_leL, nI_Lle, nI_ltL, nI_Llt, nI_eqL, nI_Leq, nI_leE, nI_ltE, nI_eqE, nI_eqM, nI_add, nI_addL, nI_Ladd, nI_mulL, nI_Lmul, pk_mul, pk_sub, nI_subL, nI_Lsub, i2l_nI, Int.toNat_natCast, Nat.not_lt_zero, Nat.zero_le, ifT, ifF, not_true_eq_false, not_false_eq_true, if_true, if_false, or_self, and_self, true_and, and_true, or_true, true_or, false_or, or_false, false_and, and_false]
  exact l
end MRN

/-! The mill: what a card does -/
noncomputable def bw (x : Int64) : Prop := x.toInt.natAbs ≤ 999999999999
abbrev aMs : Type := (Nat → Int64) × (Nat → Int64) × Nat × Bool × Nat × Int32
noncomputable def alm (C : aCd) (P : Nat → Int64) (pn : Nat) : Nat :=
  if C.1 = 1 then (if 999999999999 < (P (C.2.2.1 0) + P (C.2.2.1 1)).toInt.natAbs then 1 else 0)
  else if C.1 = 2 then (if 999999999999 < (P (C.2.2.1 0) - P (C.2.2.1 1)).toInt.natAbs then 1 else 0)
  else if C.1 = 3 then (if 999999999999 < (P (C.2.2.1 0)).toInt.natAbs * (P (C.2.2.1 1)).toInt.natAbs then 1 else 0)
  else if C.1 = 4 then (if P (C.2.2.1 1) = 0 then 2 else 0)
  else if C.1 = 5 then (if pn = 40 then 3 else 0) else 0
noncomputable def hld (w : Nat) (up : Bool) : Prop := (w = 1 ∧ up = false) ∨ (w = 2 ∧ up = true)
/-- what comes of a sum, a product, a quotient -/
noncomputable def ccl (C : aCd) (st : aMs) (r : Int64) (cost : Int32) : aMs := (vp_updL st.1 (C.2.2.1 2) r, st.2.1, st.2.2.1, decide (r < 0), st.2.2.2.2.1 + 1, st.2.2.2.2.2 + cost)
noncomputable def ldS (C : aCd) (st : aMs) : aMs := if (C.2.1 = 1 ∧ st.2.2.2.1 = false) ∨ (C.2.1 = 2 ∧ st.2.2.2.1 = true) then (st.1, st.2.1, st.2.2.1, st.2.2.2.1, st.2.2.2.2.1 + 1, st.2.2.2.2.2) else if C.1 = 6 then (st.1, st.2.1, st.2.2.1, st.2.2.2.1, st.2.2.2.2.1 - C.2.2.1 0, st.2.2.2.2.2 + nI (C.2.2.1 0)) else (st.1, st.2.1, st.2.2.1, st.2.2.2.1, st.2.2.2.2.1 + C.2.2.1 0, st.2.2.2.2.2)
noncomputable def doS (G : Nat → Nat) (C : aCd) (st : aMs) : aMs :=
  if C.1 = 0 then (vp_updL st.1 (C.2.2.1 0) C.2.2.2.2, st.2.1, st.2.2.1, st.2.2.2.1, st.2.2.2.2.1 + 1, st.2.2.2.2.2 + 1)
  else if C.1 = 1 then ccl C st (st.1 (C.2.2.1 0) + st.1 (C.2.2.1 1)) 2
  else if C.1 = 2 then ccl C st (st.1 (C.2.2.1 0) - st.1 (C.2.2.1 1)) 2
  else if C.1 = 3 then ccl C st (st.1 (C.2.2.1 0) * st.1 (C.2.2.1 1)) (2 + nI (G (st.1 (C.2.2.1 0)).toInt.natAbs))
  else if C.1 = 4 then ((vp_updL (ccl C st (st.1 (C.2.2.1 0) / st.1 (C.2.2.1 1)) 0).1 (C.2.2.1 3) (st.1 (C.2.2.1 0) - st.1 (C.2.2.1 0) / st.1 (C.2.2.1 1) * st.1 (C.2.2.1 1))), st.2.1, st.2.2.1, decide (st.1 (C.2.2.1 0) / st.1 (C.2.2.1 1) < 0), st.2.2.2.2.1 + 1, st.2.2.2.2.2 + (3 + nI (G (st.1 (C.2.2.1 0) / st.1 (C.2.2.1 1)).toInt.natAbs)))
  else if C.1 = 5 then (st.1, vp_updL st.2.1 st.2.2.1 (st.1 (C.2.2.1 0)), st.2.2.1 + 1, st.2.2.2.1, st.2.2.2.2.1 + 1, st.2.2.2.2.2 + 1)
  else ldS C st
noncomputable def okM (st : aMs) (cn : Nat) : Prop := (∀ i, i < 20 → bw (st.1 i)) ∧ st.2.2.1 ≤ 40 ∧ st.2.2.2.2.1 ≤ cn
section BW
variable {x y : Int64}
theorem bw_rg (h : bw x) : -999999999999 ≤ x.toInt ∧ x.toInt ≤ 999999999999 := by
  unfold bw at h
  omega
theorem bw_add (h : bw x) (g : bw y) : (x + y).toInt = x.toInt + y.toInt := by
  have := bw_rg h
  have := bw_rg g
  exact i64_add (by omega) (by omega)
theorem bw_sub (h : bw x) (g : bw y) : (x - y).toInt = x.toInt - y.toInt := by
  have := bw_rg h
  have := bw_rg g
  rw [Int64.toInt_sub, bm64 (by omega) (by omega)]
theorem bw_mul (h : x.toInt.natAbs * y.toInt.natAbs ≤ 999999999999) : (x * y).toInt = x.toInt * y.toInt ∧ bw (x * y) := by
  have e : (x.toInt * y.toInt).natAbs = x.toInt.natAbs * y.toInt.natAbs := Int.natAbs_mul ..
  have k : (x * y).toInt = x.toInt * y.toInt := i64_mul (by omega) (by omega)
  refine ⟨k, ?_⟩
  unfold bw
  omega
theorem bw_div (h : bw x) (hy : ¬ y = 0) : (x / y).toInt = x.toInt.tdiv y.toInt ∧ bw (x / y) ∧ bw (x - x / y * y) := by
  have r := bw_rg h
  have hy0 : y.toInt ≠ 0 := fun z => hy (Int64.toInt_inj.mp z)
  have q : (x.toInt.tdiv y.toInt).natAbs = x.toInt.natAbs / y.toInt.natAbs := Int.natAbs_tdiv ..
  have q2 : x.toInt.natAbs / y.toInt.natAbs ≤ x.toInt.natAbs := Nat.div_le_self ..
  unfold bw at h
  have e1 : (x / y).toInt = x.toInt.tdiv y.toInt := by
    rw [Int64.toInt_div, bm64 (by omega) (by omega)]
  have m := Int.mul_tdiv_add_tmod x.toInt y.toInt
  have m2 : (x.toInt.tmod y.toInt).natAbs = x.toInt.natAbs % y.toInt.natAbs := Int.natAbs_tmod ..
  have m3 : x.toInt.natAbs % y.toInt.natAbs ≤ x.toInt.natAbs := Nat.mod_le ..
  have c1 : x.toInt.tdiv y.toInt * y.toInt = y.toInt * x.toInt.tdiv y.toInt := Int.mul_comm _ _
  refine ⟨e1, by unfold bw; omega, ?_⟩
  have e2 : (x / y * y).toInt = x.toInt.tdiv y.toInt * y.toInt := by
    have : (x / y).toInt * y.toInt = x.toInt.tdiv y.toInt * y.toInt := by rw [e1]
    rw [i64_mul (by omega) (by omega), this]
  have e3 : (x - x / y * y).toInt = x.toInt.tmod y.toInt := by
    rw [Int64.toInt_sub, e2, bm64 (by omega) (by omega)]
    omega
  unfold bw
  omega
theorem abs_n (h : x.toInt.natAbs < 2 ^ 62) : (if 0 ≤ x then x else -x) = lN x.toInt.natAbs := by
  by_cases z : 0 ≤ x
  · rw [if_pos z]
    rw [i64_le] at z
    have z : (0 : Int) ≤ x.toInt := z
    rw [lN_iL, show ((x.toInt.natAbs : Nat) : Int) = x.toInt by omega]
    exact iL_of x
  · rw [if_neg z]
    rw [i64_le] at z
    have z : ¬ (0 : Int) ≤ x.toInt := z
    rw [lN_iL, show ((x.toInt.natAbs : Nat) : Int) = - x.toInt by omega, ← iL_neg, ← iL_of x]
end BW
section AB
variable {E : aEnv} {c : Nat} {ah : aHp}
theorem c_absL {x : Int64} (h : x.toInt.natAbs < 2 ^ 62) : EV E c 291 [.long x] ah (some (.long (lN x.toInt.natAbs))) ah := by
  refine e291 ?_
  rw [← abs_n h]
  by_cases z : 0 ≤ x
  · simp (disch := first | assumption | omega | decide | (simp only [List.length_cons, List.length_nil, Nat.reduceAdd, Nat.reduceLT]; done) | fail) only [r291_0, r291_1, r291_2, r291_3, r291_6, r291_7, r291_8, r291_11, r291_12, lg_cmp_ge, z, oGF_is, WPo_some, List.getElem?_cons_succ, List.getElem?_cons_zero, kil_n, kil_i, kil_a, kil_u, kil_l, Option.toList_some, Option.toList_none, List.cons_append, List.nil_append, List.set_cons_succ, List.set_cons_zero, addm1, Nat.reduceAdd, List.length_cons, List.length_nil, Nat.reduceLT, not_true_eq_false, not_false_eq_true, if_true, if_false, or_self, and_self, true_and, and_true, or_true, true_or, false_or, or_false, false_and, and_false]
  · simp (disch := first | assumption | omega | decide | (simp only [List.length_cons, List.length_nil, Nat.reduceAdd, Nat.reduceLT]; done) | fail) only [r291_0, r291_1, r291_2, r291_3, r291_6, r291_7, r291_8, r291_11, r291_12, lg_cmp_ge, z, oGF_is, WPo_some, List.getElem?_cons_succ, List.getElem?_cons_zero, kil_n, kil_i, kil_a, kil_u, kil_l, Option.toList_some, Option.toList_none, List.cons_append, List.nil_append, List.set_cons_succ, List.set_cons_zero, addm1, Nat.reduceAdd, List.length_cons, List.length_nil, Nat.reduceLT, not_true_eq_false, not_false_eq_true, if_true, if_false, or_self, and_self, true_and, and_true, or_true, true_or, false_or, or_false, false_and, and_false]
theorem big_div {s : Nat} (hs : 1 ≤ s) (hs2 : s < 2 ^ 63) : (999999999999 : Int64) / lN s = lN (999999999999 / s) := by
  rw [show (999999999999 : Int64) = lN 999999999999 from rfl, lN_div (by decide) hs2 hs]
theorem big_le {s y : Nat} (hs : 1 ≤ s) (hs2 : s ≤ 999999999999) (hy : y ≤ 999999999999) : (lN y ≤ (999999999999 : Int64) / lN s) = ¬ (999999999999 < s * y) := by
  have := Nat.div_le_self 999999999999 s
  rw [big_div hs (by omega), lN_le63 (by omega) (by omega)]
  apply propext
  rw [Nat.le_div_iff_mul_le hs, Nat.mul_comm]
  omega
theorem big_gt {r : Int64} : (999999999999 < r ∨ r < -999999999999) = (999999999999 < r.toInt.natAbs) := by
  rw [i64_lt, i64_lt]
  have e1 : (999999999999 : Int64).toInt = 999999999999 := rfl
  have e2 : (-999999999999 : Int64).toInt = -999999999999 := rfl
  apply propext
  omega
end AB
theorem vpL_all {P : Nat → Int64} {k : Nat} {x : Int64} (h : ∀ i, i < 20 → bw (P i)) (hx : bw x) : ∀ i, i < 20 → bw (vp_updL P k x i) := fun i hi => by
  by_cases z : i = k
  · rw [z, vup_at]; exact hx
  · rw [vup_ne z]; exact h i hi
theorem okM_do {G : Nat → Nat} {C : aCd} {st : aMs} {cn : Nat} (hs : okM st cn) (hC : cdOK C) (hl : ldX C st.2.2.2.2.1 cn = false) (hat : st.2.2.2.2.1 < cn) (ha : alm C st.1 st.2.2.1 = 0) : okM (doS G C st) cn := by
  obtain ⟨h1, h2, h3⟩ := hs
  obtain ⟨o1, o2, o3, o4, o5⟩ := hC
  unfold alm at ha
  unfold doS
  by_cases k0 : C.1 = 0
  · rw [if_pos k0]
    obtain ⟨z, e, b⟩ := o5
    refine ⟨vpL_all h1 ?_, h2, by dsimp only; omega⟩
    unfold bw
    rw [e, iL_toInt (by omega) (by omega)]
    exact b
  · rw [if_neg k0]
    by_cases k1 : C.1 = 1
    · rw [if_pos k1] at ha ⊢
      refine ⟨vpL_all h1 ?_, h2, by show st.2.2.2.2.1 + 1 ≤ cn; omega⟩
      unfold bw
      split at ha
      · exact absurd ha (by decide)
      · omega
    · rw [if_neg k1] at ha ⊢
      by_cases k2 : C.1 = 2
      · rw [if_pos k2] at ha ⊢
        refine ⟨vpL_all h1 ?_, h2, by show st.2.2.2.2.1 + 1 ≤ cn; omega⟩
        unfold bw
        split at ha
        · exact absurd ha (by decide)
        · omega
      · rw [if_neg k2] at ha ⊢
        by_cases k3 : C.1 = 3
        · rw [if_pos k3] at ha ⊢
          refine ⟨vpL_all h1 ?_, h2, by show st.2.2.2.2.1 + 1 ≤ cn; omega⟩
          split at ha
          · exact absurd ha (by decide)
          · exact (bw_mul (by omega)).2
        · rw [if_neg k3] at ha ⊢
          by_cases k4 : C.1 = 4
          · rw [if_pos k4] at ha ⊢
            split at ha
            · exact absurd ha (by decide)
            · next hy =>
              have b := bw_div (h1 (C.2.2.1 0) (by have := o4 (by omega) 0; omega)) hy
              exact ⟨vpL_all (vpL_all h1 b.2.1) b.2.2, h2, by show st.2.2.2.2.1 + 1 ≤ cn; omega⟩
          · rw [if_neg k4] at ha ⊢
            by_cases k5 : C.1 = 5
            · rw [if_pos k5] at ha ⊢
              split at ha
              · exact absurd ha (by decide)
              · next hp => exact ⟨h1, by show st.2.2.1 + 1 ≤ 40; omega, by show st.2.2.2.2.1 + 1 ≤ cn; omega⟩
            · rw [if_neg k5]
              unfold ldX at hl
              rw [Bool.or_eq_false_iff, decide_eq_false_iff_not, decide_eq_false_iff_not] at hl
              unfold ldS
              split
              · exact ⟨h1, h2, by show st.2.2.2.2.1 + 1 ≤ cn; omega⟩
              · split
                · next k6 => exact ⟨h1, h2, by show st.2.2.2.2.1 - C.2.2.1 0 ≤ cn; omega⟩
                · next k6 =>
                  have k7 : C.1 = 7 := by omega
                  exact ⟨h1, h2, by show st.2.2.2.2.1 + C.2.2.1 0 ≤ cn; have := fun z => hl.2 ⟨k7, z⟩; omega⟩

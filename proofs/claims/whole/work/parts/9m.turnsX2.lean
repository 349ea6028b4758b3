/-! The class: turns, turnsAt; the model's table in numbers -/
noncomputable def tnSt (v : Int64) : Int32 := if 0 ≤ v.toInt ∧ v.toInt ≤ 999999999999 then 0 else 5
noncomputable def taSt (v : Int64) (k : Int32) : Int32 := if (0 ≤ v.toInt ∧ v.toInt ≤ 999999999999) ∧ 0 ≤ k.toInt ∧ k.toInt ≤ 12 then 0 else 5
theorem i64_nat {v : Int64} (h : 0 ≤ v.toInt) : v = lN v.toInt.toNat := by
  have := i64_rg v
  apply Int64.toInt_inj.mp
  rw [lN_toInt63 (by omega)]
  omega
section TNX
variable {E : aEnv} {c : Nat} {ah : aHp} {A : Nat → Nat} {S : Nat → aE} {tx sp : Nat} {hT eC tL st : Int32}
theorem x_turns (hO : XO E ah A) (hX : S 0 = xO A tx sp hT eC tL st) {G : Nat → Nat} (hG : GG G) {v : Int64} : EV E (c + 2) 169 [.ref (A 0), .long v] (oh E ah A S) (some (.int (if tnSt v = 0 then nI (G v.toInt.toNat) else -1))) (oh E ah A (su S 0 (xO A tx sp hT eC tL (tnSt v)))) := by
  refine e169 ?_
  have hX' := hX
  unfold tnSt
  have e1 : (v < 0) = (v.toInt < 0) := by rw [i64_lt]; rfl
  have e2 : (v ≤ 999999999999) = (v.toInt ≤ 999999999999) := by rw [i64_le]; rfl
  unfold xO at hX' ⊢
  by_cases h1 : 0 ≤ v.toInt
  · by_cases h2 : v.toInt ≤ 999999999999
    · have ev := i64_nat h1
      have k1 := fun ah => c_least (E := E) (c := c) (ah := ah) hG (N := v.toInt.toNat) (by omega)
      rw [← ev] at k1
      simp (disch := first | assumption | omega | decide | (simp only [List.length_cons, List.length_nil, Nat.reduceAdd, Nat.reduceLT]; done) | fail) only [r169_0, r169_1, r169_2, r169_3, r169_4, r169_7, r169_8, r169_11, r169_12, r169_15, r169_16, r169_19, r169_20, r169_23, r169_24, r169_27, r169_30, r169_34, r169_37, r169_38, q169_31 (k1 _), hx_0 hO, hX', pf_10150, sx_0 hO, su_at, lg_cmp_lt, lg_cmp_le, e1, e2, h1, h2, show ¬ v.toInt < 0 by omega, oGF_is, WPo_some, List.getElem?_cons_succ, List.getElem?_cons_zero, kil_n, kil_i, kil_a, kil_u, kil_l, Option.toList_some, Option.toList_none, List.cons_append, List.nil_append, List.set_cons_succ, List.set_cons_zero, addm1, Nat.reduceAdd, List.length_cons, List.length_nil, Nat.reduceLT, not_true_eq_false, not_false_eq_true, if_true, if_false, or_self, and_self, true_and, and_true, or_true, true_or, false_or, or_false, false_and, and_false]
    · simp (disch := first | assumption | omega | decide | (simp only [List.length_cons, List.length_nil, Nat.reduceAdd, Nat.reduceLT]; done) | fail) only [r169_0, r169_1, r169_2, r169_3, r169_4, r169_7, r169_8, r169_11, r169_12, r169_15, r169_16, r169_19, r169_20, r169_23, r169_24, r169_27, r169_30, r169_34, r169_37, r169_38, hx_0 hO, hX', pf_10150, sx_0 hO, su_at, lg_cmp_lt, lg_cmp_le, e1, e2, h1, h2, show ¬ v.toInt < 0 by omega, oGF_is, WPo_some, List.getElem?_cons_succ, List.getElem?_cons_zero, kil_n, kil_i, kil_a, kil_u, kil_l, Option.toList_some, Option.toList_none, List.cons_append, List.nil_append, List.set_cons_succ, List.set_cons_zero, addm1, Nat.reduceAdd, List.length_cons, List.length_nil, Nat.reduceLT, not_true_eq_false, not_false_eq_true, if_true, if_false, or_self, and_self, true_and, and_true, or_true, true_or, false_or, or_false, false_and, and_false, show ¬ (5 : Int32) = 0 by decide]
  · simp (disch := first | assumption | omega | decide | (simp only [List.length_cons, List.length_nil, Nat.reduceAdd, Nat.reduceLT]; done) | fail) only [r169_0, r169_1, r169_2, r169_3, r169_4, r169_7, r169_8, r169_11, r169_12, r169_15, r169_16, r169_19, r169_20, r169_23, r169_24, r169_27, r169_30, r169_34, r169_37, r169_38, hx_0 hO, hX', pf_10150, sx_0 hO, su_at, lg_cmp_lt, lg_cmp_le, e1, e2, h1, show v.toInt < 0 by omega, oGF_is, WPo_some, List.getElem?_cons_succ, List.getElem?_cons_zero, kil_n, kil_i, kil_a, kil_u, kil_l, Option.toList_some, Option.toList_none, List.cons_append, List.nil_append, List.set_cons_succ, List.set_cons_zero, addm1, Nat.reduceAdd, List.length_cons, List.length_nil, Nat.reduceLT, not_true_eq_false, not_false_eq_true, if_true, if_false, or_self, and_self, true_and, and_true, or_true, true_or, false_or, or_false, false_and, and_false, show ¬ (5 : Int32) = 0 by decide]
theorem x_turnsAt (hO : XO E ah A) (hX : S 0 = xO A tx sp hT eC tL st) {G : Nat → Nat} (hG : GG G) {v : Int64} {k : Int32} : EV E (c + 4) 170 [.ref (A 0), .long v, .int k] (oh E ah A S) (some (.int (if taSt v k = 0 then figG G (itG G k.toInt.toNat v.toInt.toNat) else -1))) (oh E ah A (su S 0 (xO A tx sp hT eC tL (taSt v k)))) := by
  refine e170 ?_
  have hX' := hX
  unfold taSt
  have e1 : (v < 0) = (v.toInt < 0) := by rw [i64_lt]; rfl
  have e2 : (999999999999 < v) = (999999999999 < v.toInt) := by rw [i64_lt]; rfl
  have e3 : (k < 0) = (k.toInt < 0) := by rw [i32_lt]; rfl
  have e4 : (13 ≤ k) = (13 ≤ k.toInt) := by rw [i32_le]; rfl
  unfold xO at hX' ⊢
  by_cases h1 : 0 ≤ v.toInt
  · by_cases h2 : v.toInt ≤ 999999999999
    · by_cases h3 : 0 ≤ k.toInt
      · by_cases h4 : k.toInt ≤ 12
        · obtain ⟨q, hq, rfl⟩ := i32_nat (x := k) (n := 13) h3 (by omega)
          have ev := i64_nat h1
          have eq := nI_toInt (show q < 2 ^ 31 by omega)
          have k1 := fun ah => c_turnFig (E := E) (c := c) (ah := ah) hG (k := q) (N := v.toInt.toNat) (by omega) (by omega)
          rw [← ev] at k1
          rw [eq] at h3 h4 e3 e4 ⊢
          simp (disch := first | assumption | omega | decide | (simp only [List.length_cons, List.length_nil, Nat.reduceAdd, Nat.reduceLT]; done) | fail) only [r170_0, r170_1, r170_2, r170_3, r170_6, r170_7, r170_10, r170_11, r170_14, r170_15, r170_18, r170_19, r170_21, r170_24, r170_25, r170_28, r170_29, r170_31, r170_32, r170_34, r170_37, r170_38, r170_41, r170_42, r170_45, r170_46, r170_49, r170_52, r170_53, r170_57, r170_60, r170_61, q170_54 (k1 _), hx_0 hO, hX', pf_10150, sx_0 hO, su_at, lg_cmp_lt, lg_cmp_gt, e1, e2, e3, e4, h1, h2, h3, h4, show ¬ v.toInt < 0 by omega, show ¬ 999999999999 < v.toInt by omega, show ¬ (q : Int) < 0 by omega, show ¬ 13 ≤ (q : Int) by omega, Int.toNat_natCast, oGF_is, WPo_some, List.getElem?_cons_succ, List.getElem?_cons_zero, kil_n, kil_i, kil_a, kil_u, kil_l, Option.toList_some, Option.toList_none, List.cons_append, List.nil_append, List.set_cons_succ, List.set_cons_zero, addm1, Nat.reduceAdd, List.length_cons, List.length_nil, Nat.reduceLT, not_true_eq_false, not_false_eq_true, if_true, if_false, or_self, and_self, true_and, and_true, or_true, true_or, false_or, or_false, false_and, and_false, show ¬ (1 : Int32) = 0 by decide]
        · simp (disch := first | assumption | omega | decide | (simp only [List.length_cons, List.length_nil, Nat.reduceAdd, Nat.reduceLT]; done) | fail) only [r170_0, r170_1, r170_2, r170_3, r170_6, r170_7, r170_10, r170_11, r170_14, r170_15, r170_18, r170_19, r170_21, r170_24, r170_25, r170_28, r170_29, r170_31, r170_32, r170_34, r170_37, r170_38, r170_41, r170_42, r170_45, r170_46, r170_49, r170_52, r170_53, r170_57, r170_60, r170_61, hx_0 hO, hX', pf_10150, sx_0 hO, su_at, lg_cmp_lt, lg_cmp_gt, e1, e2, e3, e4, h1, h2, h3, h4, show ¬ v.toInt < 0 by omega, show ¬ 999999999999 < v.toInt by omega, show ¬ k.toInt < 0 by omega, show 13 ≤ k.toInt by omega, oGF_is, WPo_some, List.getElem?_cons_succ, List.getElem?_cons_zero, kil_n, kil_i, kil_a, kil_u, kil_l, Option.toList_some, Option.toList_none, List.cons_append, List.nil_append, List.set_cons_succ, List.set_cons_zero, addm1, Nat.reduceAdd, List.length_cons, List.length_nil, Nat.reduceLT, not_true_eq_false, not_false_eq_true, if_true, if_false, or_self, and_self, true_and, and_true, or_true, true_or, false_or, or_false, false_and, and_false, show ¬ (5 : Int32) = 0 by decide]
      · simp (disch := first | assumption | omega | decide | (simp only [List.length_cons, List.length_nil, Nat.reduceAdd, Nat.reduceLT]; done) | fail) only [r170_0, r170_1, r170_2, r170_3, r170_6, r170_7, r170_10, r170_11, r170_14, r170_15, r170_18, r170_19, r170_21, r170_24, r170_25, r170_28, r170_29, r170_31, r170_32, r170_34, r170_37, r170_38, r170_41, r170_42, r170_45, r170_46, r170_49, r170_52, r170_53, r170_57, r170_60, r170_61, hx_0 hO, hX', pf_10150, sx_0 hO, su_at, lg_cmp_lt, lg_cmp_gt, e1, e2, e3, e4, h1, h2, h3, show ¬ v.toInt < 0 by omega, show ¬ 999999999999 < v.toInt by omega, show k.toInt < 0 by omega, oGF_is, WPo_some, List.getElem?_cons_succ, List.getElem?_cons_zero, kil_n, kil_i, kil_a, kil_u, kil_l, Option.toList_some, Option.toList_none, List.cons_append, List.nil_append, List.set_cons_succ, List.set_cons_zero, addm1, Nat.reduceAdd, List.length_cons, List.length_nil, Nat.reduceLT, not_true_eq_false, not_false_eq_true, if_true, if_false, or_self, and_self, true_and, and_true, or_true, true_or, false_or, or_false, false_and, and_false, show ¬ (5 : Int32) = 0 by decide]
    · simp (disch := first | assumption | omega | decide | (simp only [List.length_cons, List.length_nil, Nat.reduceAdd, Nat.reduceLT]; done) | fail) only [r170_0, r170_1, r170_2, r170_3, r170_6, r170_7, r170_10, r170_11, r170_14, r170_15, r170_18, r170_19, r170_21, r170_24, r170_25, r170_28, r170_29, r170_31, r170_32, r170_34, r170_37, r170_38, r170_41, r170_42, r170_45, r170_46, r170_49, r170_52, r170_53, r170_57, r170_60, r170_61, hx_0 hO, hX', pf_10150, sx_0 hO, su_at, lg_cmp_lt, lg_cmp_gt, e1, e2, h1, h2, show ¬ v.toInt < 0 by omega, show 999999999999 < v.toInt by omega, oGF_is, WPo_some, List.getElem?_cons_succ, List.getElem?_cons_zero, kil_n, kil_i, kil_a, kil_u, kil_l, Option.toList_some, Option.toList_none, List.cons_append, List.nil_append, List.set_cons_succ, List.set_cons_zero, addm1, Nat.reduceAdd, List.length_cons, List.length_nil, Nat.reduceLT, not_true_eq_false, not_false_eq_true, if_true, if_false, or_self, and_self, true_and, and_true, or_true, true_or, false_or, or_false, false_and, and_false, show ¬ (5 : Int32) = 0 by decide]
  · simp (disch := first | assumption | omega | decide | (simp only [List.length_cons, List.length_nil, Nat.reduceAdd, Nat.reduceLT]; done) | fail) only [r170_0, r170_1, r170_2, r170_3, r170_6, r170_7, r170_10, r170_11, r170_14, r170_15, r170_18, r170_19, r170_21, r170_24, r170_25, r170_28, r170_29, r170_31, r170_32, r170_34, r170_37, r170_38, r170_41, r170_42, r170_45, r170_46, r170_49, r170_52, r170_53, r170_57, r170_60, r170_61, hx_0 hO, hX', pf_10150, sx_0 hO, su_at, lg_cmp_lt, lg_cmp_gt, e1, e2, h1, show v.toInt < 0 by omega, oGF_is, WPo_some, List.getElem?_cons_succ, List.getElem?_cons_zero, kil_n, kil_i, kil_a, kil_u, kil_l, Option.toList_some, Option.toList_none, List.cons_append, List.nil_append, List.set_cons_succ, List.set_cons_zero, addm1, Nat.reduceAdd, List.length_cons, List.length_nil, Nat.reduceLT, not_true_eq_false, not_false_eq_true, if_true, if_false, or_self, and_self, true_and, and_true, or_true, true_or, false_or, or_false, false_and, and_false, show ¬ (5 : Int32) = 0 by decide]
end TNX
/-- the model's table -/
noncomputable def Av (G : Nat → Nat) (V k c : Nat) : Nat := if k = 13 then (if c = 0 then 0 else 1000) else G (V / 10 ^ k + c)
theorem Av_rec {G : Nat → Nat} (hG : GG G) {V k c : Nat} (hV : V < 1000000000000) (hk : k ≤ 12) (hc : c ≤ 1) : Av G V k c = min (if V / 10 ^ k % 10 + c ≤ 9 then V / 10 ^ k % 10 + c + Av G V (k + 1) 0 else 1000) (if 1 ≤ V / 10 ^ k % 10 + c then 10 - (V / 10 ^ k % 10 + c) + Av G V (k + 1) 1 else 1000) := by
  have hd : V / 10 ^ k ≤ V := Nat.div_le_self _ _
  have hs : V / 10 ^ k / 10 = V / 10 ^ (k + 1) := by rw [Nat.div_div_eq_div_mul, Nat.pow_succ]
  by_cases k12 : k = 12
  · subst k12
    have e0 : V / 10 ^ 12 = 0 := Nat.div_eq_of_lt (by
      have : (10 : Nat) ^ 12 = 1000000000000 := by decide
      omega)
    unfold Av
    rw [e0]
    rcases (show c = 0 ∨ c = 1 by omega) with rfl | rfl
    · simp [hG.1]
    · simp [hG.2.1]
  · have a1 : Av G V k c = G (V / 10 ^ k + c) := if_neg (by omega)
    have a2 : ∀ x, Av G V (k + 1) x = G (V / 10 ^ (k + 1) + x) := fun x => if_neg (by omega)
    rw [a1, a2, a2, Nat.add_zero]
    generalize V / 10 ^ (k + 1) = Y at hs ⊢
    generalize V / 10 ^ k = X at hd hs ⊢
    have g1 := hG.2.2.1 (X + c) (by omega)
    have g3 := hG.2.2.2 (X + c) (by omega)
    by_cases w9 : X % 10 + c ≤ 9
    · rw [if_pos w9]
      have e1 : (X + c) % 10 = X % 10 + c := by omega
      have e2 : (X + c) / 10 = Y := by omega
      rw [e1, e2] at g1
      rw [g1]
      by_cases w0 : X % 10 + c = 0
      · rw [if_pos w0, if_neg (by omega)]
      · rw [if_neg w0, if_pos (by omega)]
    · rw [if_neg w9, if_pos (by omega)]
      have e1 : (X + c) % 10 = 0 := by omega
      have e2 : (X + c) / 10 = Y + 1 := by omega
      rw [e1, e2, if_pos rfl] at g1
      rw [g1, Nat.zero_add, show 10 - (X % 10 + c) = 0 by omega, Nat.zero_add, Nat.min_comm]
theorem Av_le {G : Nat → Nat} (hG : GG G) {V k c : Nat} (hV : V < 1000000000000) (hc : c ≤ 1) : Av G V k c ≤ 1000 := by
  unfold Av
  split
  · split <;> omega
  · have hd : V / 10 ^ k ≤ V := Nat.div_le_self _ _
    have := hG.2.2.2 (V / 10 ^ k + c) (by omega)
    omega

/-! Errata of the class: the options -/
theorem fnu_ne {α : Type} {f : Nat → α} {i j : Nat} {x : α} (h : ¬ j = i) : fnu f i x j = f j := if_neg h
noncomputable def shG (a : Nat → Int32) (c to : Nat) : Nat → Int32 := fun q => if to < q ∧ q ≤ c then a (q - 1) else a q
noncomputable def inI (a : Nat → Int32) (c to : Nat) (x : Int32) : Nat → Int32 := fun q => if q < to then a q else if q = to then x else if q ≤ c then a (q - 1) else a q
theorem shG_c {a : Nat → Int32} {c : Nat} : shG a c c = a := by
  funext q
  unfold shG
  rw [if_neg (by omega)]
theorem shG_dn {a : Nat → Int32} {c to : Nat} (h1 : 0 < to) (hc : to ≤ c) : upd (shG a c to) to (a (to - 1)) = shG a c (to - 1) := by
  funext q
  unfold upd shG
  by_cases z : q = to
  · rw [if_pos z, if_pos (by omega), z]
  · rw [if_neg z]
    by_cases w : to < q ∧ q ≤ c
    · rw [if_pos w, if_pos (by omega)]
    · rw [if_neg w, if_neg (by omega)]
theorem shG_in {a : Nat → Int32} {c to : Nat} {x : Int32} (hc : to ≤ c) : upd (shG a c to) to x = inI a c to x := by
  funext q
  unfold upd shG inI
  by_cases z : q = to
  · rw [if_pos z, if_neg (by omega), if_pos z]
  · rw [if_neg z]
    by_cases w : q < to
    · rw [if_neg (by omega), if_pos w]
    · rw [if_neg w, if_neg z]
      by_cases y : q ≤ c
      · rw [if_pos (by omega), if_pos y]
      · rw [if_neg (by omega), if_neg y]
theorem inI_A {a : Nat → Int32} {c to : Nat} {x : Int32} : (fun q => (inI a c to x q).toInt) = inA (fun q => (a q).toInt) c to x.toInt := by
  funext q
  unfold inI inA
  by_cases w : q < to
  · rw [if_pos w, if_pos w]
  · rw [if_neg w, if_neg w]
    by_cases z : q = to
    · rw [if_pos z, if_pos z]
    · rw [if_neg z, if_neg z]
      by_cases y : q ≤ c
      · rw [if_pos y, if_pos y]
      · rw [if_neg y, if_neg y]
section EX4
variable {E : aEnv} {c : Nat} {ah : aHp} {A : Nat → Nat} {S : Nat → aE} {fn mn od bd : Int32} {lo hi : Int64} {vl oc wi sh : Nat → Int32} {dl : Nat → Int64} {OP : Nat → Nat → Int32} {V : Nat → Nat}
theorem gA_row (hO : XO E ah A) {i : Nat} (hi' : i < 20) {st : List Value} : gA E (oh E ah A (eS A S fn mn od bd lo hi vl oc wi sh dl OP)) (.int (nI i) :: .ref (A 22) :: st) = some (.ref (A (23 + i)) :: st) := by
  have e1 := nI_clamp (show i < 2 ^ 31 by omega)
  have e2 := nI_pos (show i < 2 ^ 31 by omega)
  rw [gA_at (hr22 hO) (by decide) (by decide) (vp_in_nI (show i < 20 by omega) (by omega)), e1, if_pos hi']
  rfl
theorem c_figOf (hO : XO E ah A) (hE : ErE E) {i p : Nat} (hi' : i < 20) (hp : p < 8) (hv : vl i = nI (V i)) (hv2 : V i ≤ 99999999) : EV E c 62 [.ref (A 19), .int (nI i), .int (nI p)] (oh E ah A (eS A S fn mn od bd lo hi vl oc wi sh dl OP)) (some (.int (nI (fgN (V i) p)))) (oh E ah A (eS A S fn mn od bd lo hi vl oc wi sh dl OP)) := by
  obtain ⟨a0, a1, f0, f1, e0, e1, l0, l1, t0, t1, F0, F1⟩ := hE
  refine e62 ?_
  have lo1 : ∀ x : aHp, hg E x a1 = none := fun x => hg_low l1
  have f := F1 p hp
  have p8 : 10 ^ p ≤ 10 ^ 7 := Nat.pow_le_pow_right (by decide) (by omega)
  have p0 : 0 < 10 ^ p := Nat.pow_pos (by decide)
  have e7 : (10 : Nat) ^ 7 = 10000000 := by decide
  have y0 : ¬ nI (10 ^ p) = 0 := by rw [show (0 : Int32) = nI 0 from rfl, nI_eqE (by omega) (by decide)]; omega
  have d1 : nI (V i) / nI (10 ^ p) = nI (V i / 10 ^ p) := nI_div (by omega) (by omega)
  have le : V i / 10 ^ p ≤ V i := Nat.div_le_self ..
  have r1 : nI (V i / 10 ^ p) - nI (V i / 10 ^ p) / 10 * 10 = nI (V i / 10 ^ p % 10) := nI_rem (b := 10) (by omega) (by decide)
  simp (disch := first | assumption | omega | decide | (simp only [List.length_cons, List.length_nil, Nat.reduceAdd, Nat.reduceLT]; done) | fail) only [r62_0, r62_1, r62_4, r62_5, r62_6, r62_9, r62_10, gC, e1, hr19 hO, hr20 hO, gI, lo1, t1, f, hv, oGF_is, WPo_some, List.getElem?_cons_succ, List.getElem?_cons_zero, kil_n, kil_i, kil_a, kil_u, kil_l, Option.toList_some, Option.toList_none, List.cons_append, List.nil_append, List.set_cons_succ, List.set_cons_zero, addm1, Nat.reduceAdd, List.length_cons, List.length_nil, Nat.reduceLT, nI_clamp, nI_toInt, nI_leL, nI_Lle, nI_ltL, nI_Llt, nI_eqL, nI_Leq, nI_leE, nI_ltE, nI_eqE, nI_eqM, nI_add, nI_addL, nI_Ladd, nI_mulL, nI_Lmul, pk_mul, pk_sub, nI_subL, nI_Lsub, i2l_nI, Int.toNat_natCast, Nat.not_lt_zero, Nat.zero_le, ifT, ifF, not_true_eq_false, not_false_eq_true, if_true, if_false, or_self, and_self, true_and, and_true, or_true, true_or, false_or, or_false, false_and, and_false]
  rw [r62_11 y0, d1]
  simp (disch := first | assumption | omega | decide | (simp only [List.length_cons, List.length_nil, Nat.reduceAdd, Nat.reduceLT]; done) | fail) only [r62_12, oGF_is, WPo_some, List.getElem?_cons_succ, List.getElem?_cons_zero, kil_n, kil_i, kil_a, kil_u, kil_l, Option.toList_some, Option.toList_none, List.cons_append, List.nil_append, List.set_cons_succ, List.set_cons_zero, addm1, Nat.reduceAdd, List.length_cons, List.length_nil, Nat.reduceLT]
  rw [r62_14 (by decide), r1]
  simp (disch := first | assumption | omega | decide | (simp only [List.length_cons, List.length_nil, Nat.reduceAdd, Nat.reduceLT]; done) | fail) only [r62_15, oGF_is, WPo_some, List.getElem?_cons_succ, List.getElem?_cons_zero, kil_n, kil_i, kil_a, kil_u, kil_l, Option.toList_some, Option.toList_none, List.cons_append, List.nil_append, List.set_cons_succ, List.set_cons_zero, addm1, Nat.reduceAdd, List.length_cons, List.length_nil, Nat.reduceLT, not_true_eq_false, not_false_eq_true, if_true, if_false, or_self, and_self, true_and, and_true, or_true, true_or, false_or, or_false, false_and, and_false]
  exact rfl
theorem c_addOption (hO : XO E ah A) {i cc : Nat} (hi' : i < 20) (hc : oc i = nI cc) (hcc : cc < 79) {x : Int32} {M : Int → Prop} (hM : srS (fun q => (OP i q).toInt) cc M) : ∃ f, EV E c 63 [.ref (A 19), .int (nI i), .int x] (oh E ah A (eS A S fn mn od bd lo hi vl oc wi sh dl OP)) none (oh E ah A (eS A S fn mn od bd lo hi vl (upd oc i (nI (cc + 1))) wi sh dl (fnu OP i f))) ∧ srS (fun q => (f q).toInt) (cc + 1) (fun y => M y ∨ y = x.toInt) := by
  have loop : ∀ to, to ≤ cc → (∀ q, to ≤ q → q < cc → x.toInt < (OP i q).toInt) → ∃ f, WP E c 63 23 [some (.ref (A 19)), some (.int (nI i)), some (.int x), some (.ref (A (23 + i))), some (.int (nI to))] [] (oh E ah A (eS A S fn mn od bd lo hi vl oc wi sh dl (fnu OP i (shG (OP i) cc to)))) (fun r y => r = none ∧ y = oh E ah A (eS A S fn mn od bd lo hi vl (upd oc i (nI (cc + 1))) wi sh dl (fnu OP i f))) ∧ srS (fun q => (f q).toInt) (cc + 1) (fun y => M y ∨ y = x.toInt) := by
    intro to
    induction to with
    | zero =>
      intro h1 h2
      refine ⟨inI (OP i) cc 0 x, ?_, ?_⟩
      · rw [r63_23]
        simp (disch := first | assumption | omega | decide | (simp only [List.length_cons, List.length_nil, Nat.reduceAdd, Nat.reduceLT]; done) | fail) only [r63_25, r63_54, r63_54n, r63_55, r63_57, r63_58, r63_59, r63_60, r63_63, r63_64, r63_64l, r63_65, r63_66, r63_67, r63_68, r63_69, hr19 hO, hr23 hO hi', hr43 hO, sr23 hO hi', sr43 hO, fnu_at, fnu_fnu, shG_in, gI, pI, hc, oGF_is, WPo_some, List.getElem?_cons_succ, List.getElem?_cons_zero, kil_n, kil_i, kil_a, kil_u, kil_l, Option.toList_some, Option.toList_none, List.cons_append, List.nil_append, List.set_cons_succ, List.set_cons_zero, addm1, Nat.reduceAdd, List.length_cons, List.length_nil, Nat.reduceLT, nI_clamp, nI_toInt, nI_leL, nI_Lle, nI_ltL, nI_Llt, nI_eqL, nI_Leq, nI_leE, nI_ltE, nI_eqE, nI_eqM, nI_add, nI_addL, nI_Ladd, nI_mulL, nI_Lmul, pk_mul, pk_sub, nI_subL, nI_Lsub, i2l_nI, Int.toNat_natCast, Nat.not_lt_zero, Nat.zero_le, ifT, ifF, not_true_eq_false, not_false_eq_true, if_true, if_false, or_self, and_self, true_and, and_true, or_true, true_or, false_or, or_false, false_and, and_false]
      · rw [inI_A]
        exact inA_sr hM h1 (Or.inl rfl) h2
    | succ to ih =>
      intro h1 h2
      have rd : shG (OP i) cc (to + 1) to = OP i to := if_neg (by omega)
      by_cases y : x.toInt < (OP i to).toInt
      · obtain ⟨f, w, hf⟩ := ih (by omega) (fun q q1 q2 => by
          by_cases z : q = to
          · rw [z]; exact y
          · exact h2 q (by omega) q2)
        refine ⟨f, ?_, hf⟩
        have y' : ¬ OP i to ≤ x := by simp only [i32_lt, i32_le, i64_lt, i64_le, i2l_toInt, Int32.reduceToInt, Int64.reduceToInt]; omega
        have dn := shG_dn (a := OP i) (c := cc) (to := to + 1) (by omega) h1
        rw [Nat.add_sub_cancel] at dn
        rw [r63_23]
        simp (disch := first | assumption | omega | decide | (simp only [List.length_cons, List.length_nil, Nat.reduceAdd, Nat.reduceLT]; done) | fail) only [r63_25, r63_28, r63_28n, r63_29, r63_31, r63_32, r63_33, r63_34, r63_35, r63_38, r63_38n, r63_39, r63_41, r63_41n, r63_42, r63_44, r63_45, r63_46, r63_47, r63_48, r63_51, hr23 hO hi', sr23 hO hi', fnu_at, fnu_fnu, gI, pI, rd, dn, y', Nat.add_sub_cancel, oGF_is, WPo_some, List.getElem?_cons_succ, List.getElem?_cons_zero, kil_n, kil_i, kil_a, kil_u, kil_l, Option.toList_some, Option.toList_none, List.cons_append, List.nil_append, List.set_cons_succ, List.set_cons_zero, addm1, Nat.reduceAdd, List.length_cons, List.length_nil, Nat.reduceLT, nI_clamp, nI_toInt, nI_leL, nI_Lle, nI_ltL, nI_Llt, nI_eqL, nI_Leq, nI_leE, nI_ltE, nI_eqE, nI_eqM, nI_add, nI_addL, nI_Ladd, nI_mulL, nI_Lmul, pk_mul, pk_sub, nI_subL, nI_Lsub, i2l_nI, Int.toNat_natCast, Nat.not_lt_zero, Nat.zero_le, ifT, ifF, not_true_eq_false, not_false_eq_true, if_true, if_false, or_self, and_self, true_and, and_true, or_true, true_or, false_or, or_false, false_and, and_false]
        exact w
      · refine ⟨inI (OP i) cc (to + 1) x, ?_, ?_⟩
        · have y' : OP i to ≤ x := by simp only [i32_lt, i32_le, i64_lt, i64_le, i2l_toInt, Int32.reduceToInt, Int64.reduceToInt]; omega
          rw [r63_23]
          simp (disch := first | assumption | omega | decide | (simp only [List.length_cons, List.length_nil, Nat.reduceAdd, Nat.reduceLT]; done) | fail) only [r63_25, r63_28, r63_28n, r63_29, r63_31, r63_32, r63_33, r63_34, r63_35, r63_54, r63_54n, r63_55, r63_57, r63_58, r63_59, r63_60, r63_63, r63_64, r63_64l, r63_65, r63_66, r63_67, r63_68, r63_69, hr19 hO, hr23 hO hi', hr43 hO, sr23 hO hi', sr43 hO, fnu_at, fnu_fnu, shG_in, gI, pI, rd, y', hc, Nat.add_sub_cancel, oGF_is, WPo_some, List.getElem?_cons_succ, List.getElem?_cons_zero, kil_n, kil_i, kil_a, kil_u, kil_l, Option.toList_some, Option.toList_none, List.cons_append, List.nil_append, List.set_cons_succ, List.set_cons_zero, addm1, Nat.reduceAdd, List.length_cons, List.length_nil, Nat.reduceLT, nI_clamp, nI_toInt, nI_leL, nI_Lle, nI_ltL, nI_Llt, nI_eqL, nI_Leq, nI_leE, nI_ltE, nI_eqE, nI_eqM, nI_add, nI_addL, nI_Ladd, nI_mulL, nI_Lmul, pk_mul, pk_sub, nI_subL, nI_Lsub, i2l_nI, Int.toNat_natCast, Nat.not_lt_zero, Nat.zero_le, ifT, ifF, not_true_eq_false, not_false_eq_true, if_true, if_false, or_self, and_self, true_and, and_true, or_true, true_or, false_or, or_false, false_and, and_false]
        · rw [inI_A]
          refine inA_sr hM h1 (Or.inr ?_) h2
          show (OP i to).toInt ≤ x.toInt
          omega
  obtain ⟨f, w, hf⟩ := loop cc (Nat.le_refl _) (fun q q1 q2 => absurd q2 (by omega))
  rw [shG_c, fnu_self] at w
  refine ⟨f, e63 ?_, hf⟩
  have e79 : ¬ Int32.ofNat 79 ≤ nI cc := by
    show ¬ nI 79 ≤ nI cc
    rw [nI_leE (by decide) (by omega)]
    omega
  have e79' : nI cc < Int32.ofNat 79 := by
    show nI cc < nI 79
    rw [nI_ltE (by omega) (by decide)]
    omega
  simp (disch := first | assumption | omega | decide | (simp only [List.length_cons, List.length_nil, Nat.reduceAdd, Nat.reduceLT]; done) | fail) only [r63_0, r63_1, r63_4, r63_5, r63_6, r63_6n, r63_7, r63_8, r63_11, r63_12, r63_13, r63_15, r63_17, r63_17n, r63_18, r63_19, hr19 hO, hr43 hO, hr23 hO hi', gA_row hO hi', gI, gN, hc, e79, e79', oGF_is, WPo_some, List.getElem?_cons_succ, List.getElem?_cons_zero, kil_n, kil_i, kil_a, kil_u, kil_l, Option.toList_some, Option.toList_none, List.cons_append, List.nil_append, List.set_cons_succ, List.set_cons_zero, addm1, Nat.reduceAdd, List.length_cons, List.length_nil, Nat.reduceLT, nI_clamp, nI_toInt, nI_leL, nI_Lle, nI_ltL, nI_Llt, nI_eqL, nI_Leq, nI_leE, nI_ltE, nI_eqE, nI_eqM, nI_add, nI_addL, nI_Ladd, nI_mulL, nI_Lmul, pk_mul, pk_sub, nI_subL, nI_Lsub, i2l_nI, Int.toNat_natCast, Nat.not_lt_zero, Nat.zero_le, ifT, ifF, not_true_eq_false, not_false_eq_true, if_true, if_false, or_self, and_self, true_and, and_true, or_true, true_or, false_or, or_false, false_and, and_false]
  exact w
end EX4

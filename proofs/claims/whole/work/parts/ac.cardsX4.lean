/-! The class' cards: the whole reading -/
noncomputable def rdA (T : Nat → Int32) (n : Nat) : Nat → Nat → (Nat → aCd) → aPs → Nat × (Nat → aCd) × aPs
  | 0, cn, D, s => (cn, D, s)
  | z + 1, cn, D, s => if s.2.1 = 0 ∧ ¬ nxT T n s.1 = 0 then (if kdN T n s.1 = 8 then (cn, D, flt T n s.1 2) else if cn = 40 then (cn, D, flt T n s.1 3) else if (rdC T n s.1).1.2.1 = 0 then rdA T n z (cn + 1) (fnu D cn (rdC T n s.1).2) (rdC T n s.1).1 else (cn, D, (rdC T n s.1).1)) else (cn, D, s)
noncomputable def ldX (C : aCd) (i cn : Nat) : Bool := decide (C.1 = 6 ∧ i < C.2.2.1 0) || decide (C.1 = 7 ∧ cn < i + C.2.2.1 0)
noncomputable def ckL (D : Nat → aCd) (cn : Nat) : Nat → Nat → Option Nat
  | 0, _ => none
  | z + 1, i => if ldX (D i) i cn = true then some (D i).2.2.2.1 else ckL D cn z (i + 1)
noncomputable def ckS (p : Nat) (o : Option Nat) : aPs := match o with
  | some st => (p, 5, nI st)
  | none => gon p
noncomputable def cdOK (C : aCd) : Prop := C.1 ≤ 7 ∧ C.2.1 ≤ 2 ∧ (∀ j, C.2.2.1 j ≤ 40) ∧ (C.1 ≤ 5 → ∀ j, C.2.2.1 j ≤ 19) ∧ bdI C.2.2.2.2 999999999999
noncomputable def dkH (A : Nat → Nat) (S : Nat → aE) (b : Nat) (kd wn nm ls : Nat → Int32) (wl : Nat → Int64) (cn : Nat) : Prop := S b = .inr (1, [.ref (A (b + 1)), .ref (A (b + 2)), .ref (A (b + 3)), .ref (A (b + 4)), .ref (A (b + 5)), .int (nI cn)]) ∧ S (b + 1) = .inl (0, 40, .inl kd) ∧ S (b + 2) = .inl (0, 40, .inl wn) ∧ S (b + 3) = .inl (0, 160, .inl nm) ∧ S (b + 4) = .inl (0, 40, .inl ls) ∧ S (b + 5) = .inl (1, 40, .inr (.inl wl))
theorem nI_surj (x : Int32) : ∃ y : Nat, x = nI y := ⟨x.toBitVec.toNat, by
  apply Int32.toBitVec_inj.mp
  show x.toBitVec = BitVec.ofNat 32 x.toBitVec.toNat
  simp⟩
section DKM
variable {E : aEnv} {c : Nat} {ah : aHp} {A : Nat → Nat} {S : Nat → aE} {T : Nat → Int32} {n b cn : Nat} {kd wn nm ls : Nat → Int32} {wl : Nat → Int64}
theorem dkH_su {X : aE} (hb : 61 ≤ b ∧ b ≤ 67) : dkH A (su (dk A S b kd wn nm ls wl cn) 14 X) b kd wn nm ls wl cn := ⟨by rw [su_ne (by omega), dk_0], by rw [su_ne (by omega), dk_1], by rw [su_ne (by omega), dk_2], by rw [su_ne (by omega), dk_3], by rw [su_ne (by omega), dk_4], by rw [su_ne (by omega), dk_5]⟩
theorem dkH_ci (hO : XO E ah A) (hb : 61 ≤ b ∧ b ≤ 67) (hH : dkH A S b kd wn nm ls wl cn) : oCI (hg E (oh E ah A S) (A b)) = 1 := by rw [hxn hO (by omega), hH.1]; rfl
theorem c_hasCard (hO : XO E ah A) (hb : 61 ≤ b ∧ b ≤ 67) (hH : dkH A S b kd wn nm ls wl cn) (hc : cn ≤ 40) {x : Int32} : EV E c 18 [.ref (A b), .int x] (oh E ah A S) (some (.int (b2i (0 ≤ x.toInt ∧ x.toInt < cn)))) (oh E ah A S) := by
  refine e18 ?_
  have g0 : hg E (oh E ah A S) (A b) = some (.inr (1, [.ref (A (b + 1)), .ref (A (b + 2)), .ref (A (b + 3)), .ref (A (b + 4)), .ref (A (b + 5)), .int (nI cn)])) := by rw [hxn hO (by omega), hH.1]
  simp (disch := first | assumption | omega | decide | (simp only [List.length_cons, List.length_nil, Nat.reduceAdd, Nat.reduceLT]; done) | fail) only [r18_0, r18_1, r18_4, r18_5, r18_6, r18_9, r18_12, r18_13, r18_16, r18_17 (x := 0) (Or.inl rfl), r18_17 (x := 1) (Or.inr rfl), r18_17 (b2i_or _), g0, oGF_is, WPo_some, List.getElem?_cons_succ, List.getElem?_cons_zero, kil_n, kil_i, kil_a, kil_u, kil_l, Option.toList_some, Option.toList_none, List.cons_append, List.nil_append, List.set_cons_succ, List.set_cons_zero, addm1, Nat.reduceAdd, List.length_cons, List.length_nil, Nat.reduceLT, i32_lt, i32_le, i64_lt, i64_le, i2l_toInt, Int32.reduceToInt, Int64.reduceToInt, nI_clamp, nI_toInt, nI_leL, nI_Lle, nI_ltL, nI_Llt, nI_eqL, nI_Leq, nI_leE, nI_ltE, nI_eqE, nI_eqM, nI_add, nI_addL, nI_Ladd, nI_mulL, nI_Lmul, pk_mul, pk_sub, nI_subL, nI_Lsub, i2l_nI, Int.toNat_natCast, Nat.not_lt_zero, Nat.zero_le, ifT, ifF, b2i]
  repeat' split
  all_goals first | exact trivial | exact ⟨rfl, rfl⟩ | (exfalso; omega) | (exfalso; simp_all; done) | (simp_all; done)
theorem hasT {i : Nat} (hi : i < cn) (hc : cn ≤ 40) : (b2i (0 ≤ (nI i).toInt ∧ (nI i).toInt < (cn : Int))) = 1 := by
  unfold b2i
  rw [nI_toInt (by omega), if_pos (by omega)]
theorem c_kindOf (hO : XO E ah A) (hb : 61 ≤ b ∧ b ≤ 67) (hH : dkH A S b kd wn nm ls wl cn) (hc : cn ≤ 40) {i : Nat} (hi : i < cn) : EV E (c + 1) 19 [.ref (A b), .int (nI i)] (oh E ah A S) (some (.int (kd i))) (oh E ah A S) := by
  refine e19 ?_
  have k := c_hasCard (E := E) (c := c) hO hb hH hc (x := nI i)
  rw [hasT hi hc] at k
  have g0 : hg E (oh E ah A S) (A b) = some (.inr (1, [.ref (A (b + 1)), .ref (A (b + 2)), .ref (A (b + 3)), .ref (A (b + 4)), .ref (A (b + 5)), .int (nI cn)])) := by rw [hxn hO (by omega), hH.1]
  have g1 : hg E (oh E ah A S) (A (b + 1)) = some (.inl (0, 40, .inl kd)) := by rw [hxn hO (by omega), hH.2.1]
  simp (disch := first | assumption | omega | decide | (simp only [List.length_cons, List.length_nil, Nat.reduceAdd, Nat.reduceLT]; done) | fail) only [r19_0, r19_1, r19_5, r19_8, r19_9, r19_12, r19_13, r19_14, r19_17, r19_18, q19_2 k (dkH_ci hO hb hH), g0, g1, gI, oGF_is, WPo_some, List.getElem?_cons_succ, List.getElem?_cons_zero, kil_n, kil_i, kil_a, kil_u, kil_l, Option.toList_some, Option.toList_none, List.cons_append, List.nil_append, List.set_cons_succ, List.set_cons_zero, addm1, Nat.reduceAdd, List.length_cons, List.length_nil, Nat.reduceLT, nI_clamp, nI_toInt, nI_leL, nI_Lle, nI_ltL, nI_Llt, nI_eqL, nI_Leq, nI_leE, nI_ltE, nI_eqE, nI_eqM, nI_add, nI_addL, nI_Ladd, nI_mulL, nI_Lmul, pk_mul, pk_sub, nI_subL, nI_Lsub, i2l_nI, Int.toNat_natCast, Nat.not_lt_zero, Nat.zero_le, ifT, ifF, not_true_eq_false, not_false_eq_true, if_true, if_false, or_self, and_self, true_and, and_true, or_true, true_or, false_or, or_false, false_and, and_false, show ¬ (1 : Int32) = 0 by decide]
theorem c_whenOf (hO : XO E ah A) (hb : 61 ≤ b ∧ b ≤ 67) (hH : dkH A S b kd wn nm ls wl cn) (hc : cn ≤ 40) {i : Nat} (hi : i < cn) : EV E (c + 1) 20 [.ref (A b), .int (nI i)] (oh E ah A S) (some (.int (wn i))) (oh E ah A S) := by
  refine e20 ?_
  have k := c_hasCard (E := E) (c := c) hO hb hH hc (x := nI i)
  rw [hasT hi hc] at k
  have g0 : hg E (oh E ah A S) (A b) = some (.inr (1, [.ref (A (b + 1)), .ref (A (b + 2)), .ref (A (b + 3)), .ref (A (b + 4)), .ref (A (b + 5)), .int (nI cn)])) := by rw [hxn hO (by omega), hH.1]
  have g1 : hg E (oh E ah A S) (A (b + 2)) = some (.inl (0, 40, .inl wn)) := by rw [hxn hO (by omega), hH.2.2.1]
  simp (disch := first | assumption | omega | decide | (simp only [List.length_cons, List.length_nil, Nat.reduceAdd, Nat.reduceLT]; done) | fail) only [r20_0, r20_1, r20_5, r20_8, r20_9, r20_12, r20_13, r20_14, r20_17, r20_18, q20_2 k (dkH_ci hO hb hH), g0, g1, gI, oGF_is, WPo_some, List.getElem?_cons_succ, List.getElem?_cons_zero, kil_n, kil_i, kil_a, kil_u, kil_l, Option.toList_some, Option.toList_none, List.cons_append, List.nil_append, List.set_cons_succ, List.set_cons_zero, addm1, Nat.reduceAdd, List.length_cons, List.length_nil, Nat.reduceLT, nI_clamp, nI_toInt, nI_leL, nI_Lle, nI_ltL, nI_Llt, nI_eqL, nI_Leq, nI_leE, nI_ltE, nI_eqE, nI_eqM, nI_add, nI_addL, nI_Ladd, nI_mulL, nI_Lmul, pk_mul, pk_sub, nI_subL, nI_Lsub, i2l_nI, Int.toNat_natCast, Nat.not_lt_zero, Nat.zero_le, ifT, ifF, not_true_eq_false, not_false_eq_true, if_true, if_false, or_self, and_self, true_and, and_true, or_true, true_or, false_or, or_false, false_and, and_false, show ¬ (1 : Int32) = 0 by decide]
theorem c_wholeOf (hO : XO E ah A) (hb : 61 ≤ b ∧ b ≤ 67) (hH : dkH A S b kd wn nm ls wl cn) (hc : cn ≤ 40) {i : Nat} (hi : i < cn) : EV E (c + 1) 21 [.ref (A b), .int (nI i)] (oh E ah A S) (some (.long (wl i))) (oh E ah A S) := by
  refine e21 ?_
  have k := c_hasCard (E := E) (c := c) hO hb hH hc (x := nI i)
  rw [hasT hi hc] at k
  have g0 : hg E (oh E ah A S) (A b) = some (.inr (1, [.ref (A (b + 1)), .ref (A (b + 2)), .ref (A (b + 3)), .ref (A (b + 4)), .ref (A (b + 5)), .int (nI cn)])) := by rw [hxn hO (by omega), hH.1]
  have g1 : hg E (oh E ah A S) (A (b + 5)) = some (.inl (1, 40, .inr (.inl wl))) := by rw [hxn hO (by omega), hH.2.2.2.2.2]
  simp (disch := first | assumption | omega | decide | (simp only [List.length_cons, List.length_nil, Nat.reduceAdd, Nat.reduceLT]; done) | fail) only [r21_0, r21_1, r21_5, r21_8, r21_9, r21_12, r21_13, r21_14, r21_17, r21_18, q21_2 k (dkH_ci hO hb hH), g0, g1, gL, oGF_is, WPo_some, List.getElem?_cons_succ, List.getElem?_cons_zero, kil_n, kil_i, kil_a, kil_u, kil_l, Option.toList_some, Option.toList_none, List.cons_append, List.nil_append, List.set_cons_succ, List.set_cons_zero, addm1, Nat.reduceAdd, List.length_cons, List.length_nil, Nat.reduceLT, nI_clamp, nI_toInt, nI_leL, nI_Lle, nI_ltL, nI_Llt, nI_eqL, nI_Leq, nI_leE, nI_ltE, nI_eqE, nI_eqM, nI_add, nI_addL, nI_Ladd, nI_mulL, nI_Lmul, pk_mul, pk_sub, nI_subL, nI_Lsub, i2l_nI, Int.toNat_natCast, Nat.not_lt_zero, Nat.zero_le, ifT, ifF, not_true_eq_false, not_false_eq_true, if_true, if_false, or_self, and_self, true_and, and_true, or_true, true_or, false_or, or_false, false_and, and_false, show ¬ (1 : Int32) = 0 by decide]
theorem c_numOf (hO : XO E ah A) (hb : 61 ≤ b ∧ b ≤ 67) (hH : dkH A S b kd wn nm ls wl cn) (hc : cn ≤ 40) {i j : Nat} (hi : i < cn) (hj : j < 4) : EV E (c + 1) 22 [.ref (A b), .int (nI i), .int (nI j)] (oh E ah A S) (some (.int (nm (4 * i + j)))) (oh E ah A S) := by
  refine e22 ?_
  have k := c_hasCard (E := E) (c := c) hO hb hH hc (x := nI i)
  rw [hasT hi hc] at k
  have g0 : hg E (oh E ah A S) (A b) = some (.inr (1, [.ref (A (b + 1)), .ref (A (b + 2)), .ref (A (b + 3)), .ref (A (b + 4)), .ref (A (b + 5)), .int (nI cn)])) := by rw [hxn hO (by omega), hH.1]
  have g1 : hg E (oh E ah A S) (A (b + 3)) = some (.inl (0, 160, .inl nm)) := by rw [hxn hO (by omega), hH.2.2.2.1]
  have e1 : i * 4 + j = 4 * i + j := by omega
  simp (disch := first | assumption | omega | decide | (simp only [List.length_cons, List.length_nil, Nat.reduceAdd, Nat.reduceLT]; done) | fail) only [r22_0, r22_1, r22_5, r22_8, r22_9, r22_12, r22_13, r22_14, r22_17, r22_18, r22_21, r22_22, r22_23, r22_24, r22_27, r22_28, r22_31, r22_32, r22_33, r22_34, r22_35, r22_36, r22_37, r22_40, r22_41, q22_2 k (dkH_ci hO hb hH), g0, g1, gI, e1, oGF_is, WPo_some, List.getElem?_cons_succ, List.getElem?_cons_zero, kil_n, kil_i, kil_a, kil_u, kil_l, Option.toList_some, Option.toList_none, List.cons_append, List.nil_append, List.set_cons_succ, List.set_cons_zero, addm1, Nat.reduceAdd, List.length_cons, List.length_nil, Nat.reduceLT, nI_clamp, nI_toInt, nI_leL, nI_Lle, nI_ltL, nI_Llt, nI_eqL, nI_Leq, nI_leE, nI_ltE, nI_eqE, nI_eqM, nI_add, nI_addL, nI_Ladd, nI_mulL, nI_Lmul, pk_mul, pk_sub, nI_subL, nI_Lsub, i2l_nI, Int.toNat_natCast, Nat.not_lt_zero, Nat.zero_le, ifT, ifF, not_true_eq_false, not_false_eq_true, if_true, if_false, or_self, and_self, true_and, and_true, or_true, true_or, false_or, or_false, false_and, and_false, show ¬ (1 : Int32) = 0 by decide]
theorem c_isLead (hO : XO E ah A) (hb : 61 ≤ b ∧ b ≤ 67) (hH : dkH A S b kd wn nm ls wl cn) (hc : cn ≤ 40) {i : Nat} (hi : i < cn) : EV E (c + 2) 24 [.ref (A b), .int (nI i)] (oh E ah A S) (some (.int (b2i (kd i = 6 ∨ kd i = 7)))) (oh E ah A S) := by
  refine e24 ?_
  have k := c_kindOf (E := E) (c := c) hO hb hH hc hi
  have ci := dkH_ci hO hb hH
  unfold b2i
  by_cases h6 : kd i = 6
  · simp (disch := first | assumption | omega | decide | (simp only [List.length_cons, List.length_nil, Nat.reduceAdd, Nat.reduceLT]; done) | fail) only [r24_0, r24_1, r24_5, r24_7, r24_10, r24_11, r24_15, r24_17, r24_20, r24_21, r24_24, r24_25 (x := 0) (Or.inl rfl), r24_25 (x := 1) (Or.inr rfl), r24_25 (b2i_or _), q24_2 k ci, q24_12 k ci, h6, oGF_is, WPo_some, List.getElem?_cons_succ, List.getElem?_cons_zero, kil_n, kil_i, kil_a, kil_u, kil_l, Option.toList_some, Option.toList_none, List.cons_append, List.nil_append, List.set_cons_succ, List.set_cons_zero, addm1, Nat.reduceAdd, List.length_cons, List.length_nil, Nat.reduceLT, not_true_eq_false, not_false_eq_true, if_true, if_false, or_self, and_self, true_and, and_true, or_true, true_or, false_or, or_false, false_and, and_false]
  · by_cases h7 : kd i = 7
    · simp (disch := first | assumption | omega | decide | (simp only [List.length_cons, List.length_nil, Nat.reduceAdd, Nat.reduceLT]; done) | fail) only [r24_0, r24_1, r24_5, r24_7, r24_10, r24_11, r24_15, r24_17, r24_20, r24_21, r24_24, r24_25 (x := 0) (Or.inl rfl), r24_25 (x := 1) (Or.inr rfl), r24_25 (b2i_or _), q24_2 k ci, q24_12 k ci, h7, oGF_is, WPo_some, List.getElem?_cons_succ, List.getElem?_cons_zero, kil_n, kil_i, kil_a, kil_u, kil_l, Option.toList_some, Option.toList_none, List.cons_append, List.nil_append, List.set_cons_succ, List.set_cons_zero, addm1, Nat.reduceAdd, List.length_cons, List.length_nil, Nat.reduceLT, not_true_eq_false, not_false_eq_true, if_true, if_false, or_self, and_self, true_and, and_true, or_true, true_or, false_or, or_false, false_and, and_false, show ¬ (7 : Int32) = 6 by decide]
    · simp (disch := first | assumption | omega | decide | (simp only [List.length_cons, List.length_nil, Nat.reduceAdd, Nat.reduceLT]; done) | fail) only [r24_0, r24_1, r24_5, r24_7, r24_10, r24_11, r24_15, r24_17, r24_20, r24_21, r24_24, r24_25 (x := 0) (Or.inl rfl), r24_25 (x := 1) (Or.inr rfl), r24_25 (b2i_or _), q24_2 k ci, q24_12 k ci, h6, h7, oGF_is, WPo_some, List.getElem?_cons_succ, List.getElem?_cons_zero, kil_n, kil_i, kil_a, kil_u, kil_l, Option.toList_some, Option.toList_none, List.cons_append, List.nil_append, List.set_cons_succ, List.set_cons_zero, addm1, Nat.reduceAdd, List.length_cons, List.length_nil, Nat.reduceLT, not_true_eq_false, not_false_eq_true, if_true, if_false, or_self, and_self, true_and, and_true, or_true, true_or, false_or, or_false, false_and, and_false]
theorem c_goalOf (hO : XO E ah A) (hb : 61 ≤ b ∧ b ≤ 67) (hH : dkH A S b kd wn nm ls wl cn) (hc : cn ≤ 40) {i : Nat} (hi : i < cn) : EV E (c + 2) 25 [.ref (A b), .int (nI i)] (oh E ah A S) (some (.int (if kd i = 6 then nI i - nm (4 * i) else nI i + nm (4 * i)))) (oh E ah A S) := by
  refine e25 ?_
  have k := c_kindOf (E := E) (c := c) hO hb hH hc hi
  have k2 := c_numOf (E := E) (c := c) hO hb hH hc hi (j := 0) (by decide)
  rw [show nI 0 = (0 : Int32) from rfl, show 4 * i + 0 = 4 * i from rfl] at k2
  have ci := dkH_ci hO hb hH
  by_cases h6 : kd i = 6
  · simp (disch := first | assumption | omega | decide | (simp only [List.length_cons, List.length_nil, Nat.reduceAdd, Nat.reduceLT]; done) | fail) only [r25_0, r25_1, r25_2, r25_6, r25_7, r25_8, r25_12, r25_14, r25_17, r25_18, r25_19, r25_20, r25_23, r25_24, r25_25, r25_26, q25_3 k2 ci, q25_9 k ci, h6, oGF_is, WPo_some, List.getElem?_cons_succ, List.getElem?_cons_zero, kil_n, kil_i, kil_a, kil_u, kil_l, Option.toList_some, Option.toList_none, List.cons_append, List.nil_append, List.set_cons_succ, List.set_cons_zero, addm1, Nat.reduceAdd, List.length_cons, List.length_nil, Nat.reduceLT, not_true_eq_false, not_false_eq_true, if_true, if_false, or_self, and_self, true_and, and_true, or_true, true_or, false_or, or_false, false_and, and_false]
  · simp (disch := first | assumption | omega | decide | (simp only [List.length_cons, List.length_nil, Nat.reduceAdd, Nat.reduceLT]; done) | fail) only [r25_0, r25_1, r25_2, r25_6, r25_7, r25_8, r25_12, r25_14, r25_17, r25_18, r25_19, r25_20, r25_23, r25_24, r25_25, r25_26, q25_3 k2 ci, q25_9 k ci, h6, oGF_is, WPo_some, List.getElem?_cons_succ, List.getElem?_cons_zero, kil_n, kil_i, kil_a, kil_u, kil_l, Option.toList_some, Option.toList_none, List.cons_append, List.nil_append, List.set_cons_succ, List.set_cons_zero, addm1, Nat.reduceAdd, List.length_cons, List.length_nil, Nat.reduceLT, not_true_eq_false, not_false_eq_true, if_true, if_false, or_self, and_self, true_and, and_true, or_true, true_or, false_or, or_false, false_and, and_false]
theorem l_ck (hO : XO E ah A) (hb : 61 ≤ b ∧ b ≤ 67) (hc : cn ≤ 40) {D : Nat → aCd} (hD : ∀ i, i < cn → dkI kd wn nm ls wl i (D i) ∧ cdOK (D i)) {p : Nat} : ∀ z i, i + z = cn → WP E (c + 3) 9 2 [some (.ref (A 14)), some (.ref (A b)), some (.int (nI i))] [] (oh E ah A (su (dk A S b kd wn nm ls wl cn) 14 (rP A T n (gon p)))) (fun r x => r = none ∧ x = oh E ah A (su (dk A S b kd wn nm ls wl cn) 14 (rP A T n (ckS p (ckL D cn z i)))))
  | 0, i, hz => by
    rw [show i = cn by omega, r9_2]
    simp (disch := first | assumption | omega | decide | (simp only [List.length_cons, List.length_nil, Nat.reduceAdd, Nat.reduceLT]; done) | fail) only [r9_3, r9_3n, r9_4, r9_7, r9_60, hz0 hO hb, oGF_is, WPo_some, List.getElem?_cons_succ, List.getElem?_cons_zero, kil_n, kil_i, kil_a, kil_u, kil_l, Option.toList_some, Option.toList_none, List.cons_append, List.nil_append, List.set_cons_succ, List.set_cons_zero, addm1, Nat.reduceAdd, List.length_cons, List.length_nil, Nat.reduceLT, nI_clamp, nI_toInt, nI_leL, nI_Lle, nI_ltL, nI_Llt, nI_eqL, nI_Leq, nI_leE, nI_ltE, nI_eqE, nI_eqM, nI_add, nI_addL, nI_Ladd, nI_mulL, nI_Lmul, pk_mul, pk_sub, nI_subL, nI_Lsub, i2l_nI, Int.toNat_natCast, Nat.not_lt_zero, Nat.zero_le, ifT, ifF, not_true_eq_false, not_false_eq_true, if_true, if_false, or_self, and_self, true_and, and_true, or_true, true_or, false_or, or_false, false_and, and_false]
    exact rfl
  | z + 1, i, hz => by
    obtain ⟨⟨d1, d2, d3, d4, d5⟩, o1, o2, o3, -⟩ := hD i (by omega)
    have o30 := o3 0
    have hH := dkH_su (A := A) (S := S) (kd := kd) (wn := wn) (nm := nm) (ls := ls) (wl := wl) (cn := cn) (X := rP A T n (gon p)) hb
    have kl := c_isLead (E := E) (c := c) hO hb hH hc (show i < cn by omega)
    have kg := c_goalOf (E := E) (c := c) hO hb hH hc (show i < cn by omega)
    have ci := dkH_ci hO hb hH
    have g0 : hg E (oh E ah A (su (dk A S b kd wn nm ls wl cn) 14 (rP A T n (gon p)))) (A 14) = some (.inr (0, [.ref (A 13), .int (nI n), .int (nI (nxE T n p)), .int (nI (nxT T n p)), .int (nI (nxS T n p)), .long (nxV T n p), .int (nI 0), .int (-1)])) := by rw [hx_14 hO, su_at]; rfl
    have ih := l_ck hO hb hc hD (p := p) z (i + 1) (by omega)
    have e6 : (kd i = 6) = ((D i).1 = 6) := by rw [d1, show (6 : Int32) = nI 6 from rfl, nI_eqE (by omega) (by decide)]
    have e7 : (kd i = 7) = ((D i).1 = 7) := by rw [d1, show (7 : Int32) = nI 7 from rfl, nI_eqE (by omega) (by decide)]
    rw [r9_2]
    unfold ckL
    by_cases y : (D i).1 = 6 ∨ (D i).1 = 7
    · have n0 := (d4 y).1
      rw [n0] at kg
      by_cases y6 : (D i).1 = 6
      · have f7 : ¬ (D i).1 = 7 := by omega
        rw [if_pos (by rw [e6]; exact y6)] at kg
        by_cases w : i < (D i).2.2.1 0
        · have neg : nI i - nI ((D i).2.2.1 0) < 0 := by
            simp only [i32_lt]
            rw [Int32.toInt_sub, nI_toInt (by omega), nI_toInt (by omega), Int.bmod_eq_of_le (by omega) (by omega)]
            show _ < (0 : Int)
            omega
          rw [show ldX (D i) i cn = true by unfold ldX; simp [y6, w], if_pos rfl]
          simp (disch := first | assumption | omega | decide | (simp only [List.length_cons, List.length_nil, Nat.reduceAdd, Nat.reduceLT]; done) | fail) only [r9_3, r9_3n, r9_4, r9_7, r9_10, r9_10n, r9_11, r9_15, r9_18, r9_18n, r9_19, r9_23, r9_26, r9_26n, r9_27, r9_31, r9_31n, r9_32, r9_35, r9_38, r9_39, r9_40, r9_43, r9_44, r9_44n, r9_45, r9_48, r9_49, r9_50, r9_53, hz0 hO hb, hz4 hO hb, g0, hx_14 hO, sx_14 hO, su_su, su_at, pf_60, pf_70, q9_12 kl ci, q9_20 kg ci, q9_28 kg ci, e6, e7, y6, b2i_eq0, neg, gI, (d4 y).2, oGF_is, WPo_some, List.getElem?_cons_succ, List.getElem?_cons_zero, kil_n, kil_i, kil_a, kil_u, kil_l, Option.toList_some, Option.toList_none, List.cons_append, List.nil_append, List.set_cons_succ, List.set_cons_zero, addm1, Nat.reduceAdd, List.length_cons, List.length_nil, Nat.reduceLT, nI_clamp, nI_toInt, nI_leL, nI_Lle, nI_ltL, nI_Llt, nI_eqL, nI_Leq, nI_leE, nI_ltE, nI_eqE, nI_eqM, nI_add, nI_addL, nI_Ladd, nI_mulL, nI_Lmul, pk_mul, pk_sub, nI_subL, nI_Lsub, i2l_nI, Int.toNat_natCast, Nat.not_lt_zero, Nat.zero_le, ifT, ifF, not_true_eq_false, not_false_eq_true, if_true, if_false, or_self, and_self, true_and, and_true, or_true, true_or, false_or, or_false, false_and, and_false, true_or]
          exact rfl
        · have e1 : nI i - nI ((D i).2.2.1 0) = nI (i - (D i).2.2.1 0) := pk_sub (by omega)
          rw [e1] at kg
          rw [show ldX (D i) i cn = false by unfold ldX; simp [y6, w], if_neg (by decide)]
          simp (disch := first | assumption | omega | decide | (simp only [List.length_cons, List.length_nil, Nat.reduceAdd, Nat.reduceLT]; done) | fail) only [r9_3, r9_3n, r9_4, r9_7, r9_10, r9_10n, r9_11, r9_15, r9_18, r9_18n, r9_19, r9_23, r9_26, r9_26n, r9_27, r9_31, r9_31n, r9_32, r9_35, r9_38, r9_39, r9_40, r9_43, r9_44, r9_44n, r9_45, r9_48, r9_49, r9_50, r9_53, r9_54, r9_57, hz0 hO hb, q9_12 kl ci, q9_20 kg ci, q9_28 kg ci, e6, e7, y6, b2i_eq0, oGF_is, WPo_some, List.getElem?_cons_succ, List.getElem?_cons_zero, kil_n, kil_i, kil_a, kil_u, kil_l, Option.toList_some, Option.toList_none, List.cons_append, List.nil_append, List.set_cons_succ, List.set_cons_zero, addm1, Nat.reduceAdd, List.length_cons, List.length_nil, Nat.reduceLT, nI_clamp, nI_toInt, nI_leL, nI_Lle, nI_ltL, nI_Llt, nI_eqL, nI_Leq, nI_leE, nI_ltE, nI_eqE, nI_eqM, nI_add, nI_addL, nI_Ladd, nI_mulL, nI_Lmul, pk_mul, pk_sub, nI_subL, nI_Lsub, i2l_nI, Int.toNat_natCast, Nat.not_lt_zero, Nat.zero_le, ifT, ifF, not_true_eq_false, not_false_eq_true, if_true, if_false, or_self, and_self, true_and, and_true, or_true, true_or, false_or, or_false, false_and, and_false, true_or]
          exact ih
      · have y7 : (D i).1 = 7 := by omega
        rw [if_neg (by rw [e6]; exact y6), nI_add] at kg
        by_cases w : cn < i + (D i).2.2.1 0
        · rw [show ldX (D i) i cn = true by unfold ldX; simp [y7, w], if_pos rfl]
          simp (disch := first | assumption | omega | decide | (simp only [List.length_cons, List.length_nil, Nat.reduceAdd, Nat.reduceLT]; done) | fail) only [r9_3, r9_3n, r9_4, r9_7, r9_10, r9_10n, r9_11, r9_15, r9_18, r9_18n, r9_19, r9_23, r9_26, r9_26n, r9_27, r9_31, r9_31n, r9_32, r9_35, r9_38, r9_39, r9_40, r9_43, r9_44, r9_44n, r9_45, r9_48, r9_49, r9_50, r9_53, hz0 hO hb, hz4 hO hb, g0, hx_14 hO, sx_14 hO, su_su, su_at, pf_60, pf_70, q9_12 kl ci, q9_20 kg ci, q9_28 kg ci, e6, e7, y7, b2i_eq0, gI, (d4 y).2, oGF_is, WPo_some, List.getElem?_cons_succ, List.getElem?_cons_zero, kil_n, kil_i, kil_a, kil_u, kil_l, Option.toList_some, Option.toList_none, List.cons_append, List.nil_append, List.set_cons_succ, List.set_cons_zero, addm1, Nat.reduceAdd, List.length_cons, List.length_nil, Nat.reduceLT, nI_clamp, nI_toInt, nI_leL, nI_Lle, nI_ltL, nI_Llt, nI_eqL, nI_Leq, nI_leE, nI_ltE, nI_eqE, nI_eqM, nI_add, nI_addL, nI_Ladd, nI_mulL, nI_Lmul, pk_mul, pk_sub, nI_subL, nI_Lsub, i2l_nI, Int.toNat_natCast, Nat.not_lt_zero, Nat.zero_le, ifT, ifF, not_true_eq_false, not_false_eq_true, if_true, if_false, or_self, and_self, true_and, and_true, or_true, true_or, false_or, or_false, false_and, and_false, or_true]
          exact rfl
        · rw [show ldX (D i) i cn = false by unfold ldX; simp [y7, w], if_neg (by decide)]
          simp (disch := first | assumption | omega | decide | (simp only [List.length_cons, List.length_nil, Nat.reduceAdd, Nat.reduceLT]; done) | fail) only [r9_3, r9_3n, r9_4, r9_7, r9_10, r9_10n, r9_11, r9_15, r9_18, r9_18n, r9_19, r9_23, r9_26, r9_26n, r9_27, r9_31, r9_31n, r9_32, r9_35, r9_38, r9_39, r9_40, r9_43, r9_44, r9_44n, r9_45, r9_48, r9_49, r9_50, r9_53, r9_54, r9_57, hz0 hO hb, q9_12 kl ci, q9_20 kg ci, q9_28 kg ci, e6, e7, y7, b2i_eq0, oGF_is, WPo_some, List.getElem?_cons_succ, List.getElem?_cons_zero, kil_n, kil_i, kil_a, kil_u, kil_l, Option.toList_some, Option.toList_none, List.cons_append, List.nil_append, List.set_cons_succ, List.set_cons_zero, addm1, Nat.reduceAdd, List.length_cons, List.length_nil, Nat.reduceLT, nI_clamp, nI_toInt, nI_leL, nI_Lle, nI_ltL, nI_Llt, nI_eqL, nI_Leq, nI_leE, nI_ltE, nI_eqE, nI_eqM, nI_add, nI_addL, nI_Ladd, nI_mulL, nI_Lmul, pk_mul, pk_sub, nI_subL, nI_Lsub, i2l_nI, Int.toNat_natCast, Nat.not_lt_zero, Nat.zero_le, ifT, ifF, not_true_eq_false, not_false_eq_true, if_true, if_false, or_self, and_self, true_and, and_true, or_true, true_or, false_or, or_false, false_and, and_false, or_true]
          exact ih
    · have f6 : ¬ (D i).1 = 6 := fun z => y (Or.inl z)
      have f7 : ¬ (D i).1 = 7 := fun z => y (Or.inr z)
      rw [show ldX (D i) i cn = false by unfold ldX; simp [f6, f7], if_neg (by decide)]
      simp (disch := first | assumption | omega | decide | (simp only [List.length_cons, List.length_nil, Nat.reduceAdd, Nat.reduceLT]; done) | fail) only [r9_3, r9_3n, r9_4, r9_7, r9_10, r9_10n, r9_11, r9_15, r9_18, r9_18n, r9_19, r9_23, r9_26, r9_26n, r9_27, r9_31, r9_31n, r9_32, r9_35, r9_38, r9_39, r9_40, r9_43, r9_44, r9_44n, r9_45, r9_48, r9_49, r9_50, r9_53, r9_54, r9_57, hz0 hO hb, q9_12 kl ci, e6, e7, f6, f7, b2i_eq0, oGF_is, WPo_some, List.getElem?_cons_succ, List.getElem?_cons_zero, kil_n, kil_i, kil_a, kil_u, kil_l, Option.toList_some, Option.toList_none, List.cons_append, List.nil_append, List.set_cons_succ, List.set_cons_zero, addm1, Nat.reduceAdd, List.length_cons, List.length_nil, Nat.reduceLT, nI_clamp, nI_toInt, nI_leL, nI_Lle, nI_ltL, nI_Llt, nI_eqL, nI_Leq, nI_leE, nI_ltE, nI_eqE, nI_eqM, nI_add, nI_addL, nI_Ladd, nI_mulL, nI_Lmul, pk_mul, pk_sub, nI_subL, nI_Lsub, i2l_nI, Int.toNat_natCast, Nat.not_lt_zero, Nat.zero_le, ifT, ifF, not_true_eq_false, not_false_eq_true, if_true, if_false, or_self, and_self, true_and, and_true, or_true, true_or, false_or, or_false, false_and, and_false]
      exact ih
end DKM

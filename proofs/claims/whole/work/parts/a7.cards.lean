/-! The cards: signs and tokens of a tape -/
/-- a sign -/
noncomputable def bt (T : Nat → Int32) (p : Nat) : Nat := (T p &&& 255).toNatClampNeg
theorem bt_b (x : Int32) : (0 : Int) ≤ (x &&& 255).toInt ∧ (x &&& 255).toInt < 256 := by
  have h1 : (x &&& 255).toBitVec.toNat < 256 := by
    rw [Int32.toBitVec_and, BitVec.toNat_and]
    exact Nat.lt_of_le_of_lt Nat.and_le_right (by decide)
  have h2 : (x &&& 255).toInt = ((x &&& 255).toBitVec.toNat : Int) := BitVec.toInt_eq_toNat_of_lt (by omega)
  omega
theorem bt_lt {T : Nat → Int32} {p : Nat} : bt T p < 256 := by
  have h1 := bt_b (T p)
  unfold bt
  have : (T p &&& 255).toNatClampNeg = (T p &&& 255).toInt.toNat := rfl
  omega
theorem bt_i {T : Nat → Int32} {p : Nat} : T p &&& 255 = nI (bt T p) := by
  have h1 := bt_b (T p)
  have h2 := bt_lt (T := T) (p := p)
  apply Int32.toInt_inj.mp
  rw [nI_toInt (by omega)]
  unfold bt
  have : (T p &&& 255).toNatClampNeg = (T p &&& 255).toInt.toNat := rfl
  omega
/-- which token a sign belongs to -/
noncomputable def clB (x : Nat) : Nat := if 97 ≤ x ∧ x ≤ 122 then 1 else if 48 ≤ x ∧ x ≤ 57 then 2 else if x = 59 then 3 else if x = 45 then 4 else 5
noncomputable def cl (T : Nat → Int32) (n p : Nat) : Nat := if p < n then clB (bt T p) else 0
theorem clB_rg {x : Nat} : 1 ≤ clB x ∧ clB x ≤ 5 := by
  unfold clB
  repeat' split
  all_goals omega
noncomputable def skF (T : Nat → Int32) : Nat → Nat → Nat
  | 0, p => p
  | z + 1, p => if bt T p = 32 ∨ bt T p = 10 then skF T z (p + 1) else p
noncomputable def exF (T : Nat → Int32) (k : Nat) : Nat → Nat → Nat
  | 0, p => p
  | z + 1, p => if clB (bt T p) = k then exF T k z (p + 1) else p
theorem skF_le {T : Nat → Int32} : ∀ z p, p ≤ skF T z p ∧ skF T z p ≤ p + z
  | 0, p => ⟨Nat.le_refl _, Nat.le_refl _⟩
  | z + 1, p => by
    have := skF_le (T := T) z (p + 1)
    unfold skF
    split <;> omega
theorem exF_le {T : Nat → Int32} {k : Nat} : ∀ z p, p ≤ exF T k z p ∧ exF T k z p ≤ p + z
  | 0, p => ⟨Nat.le_refl _, Nat.le_refl _⟩
  | z + 1, p => by
    have := exF_le (T := T) (k := k) z (p + 1)
    unfold exF
    split <;> omega
noncomputable def nxS (T : Nat → Int32) (n p : Nat) : Nat := skF T (n - p) p
noncomputable def nxC (T : Nat → Int32) (n p : Nat) : Nat := cl T n (nxS T n p)
noncomputable def nxE (T : Nat → Int32) (n p : Nat) : Nat := if nxC T n p = 0 then nxS T n p else if nxC T n p = 1 ∨ nxC T n p = 2 then exF T (nxC T n p) (n - (nxS T n p + 1)) (nxS T n p + 1) else nxS T n p + 1
noncomputable def nxT (T : Nat → Int32) (n p : Nat) : Nat := if nxC T n p = 2 ∧ 12 < nxE T n p - nxS T n p then 5 else nxC T n p
noncomputable def vaL (T : Nat → Int32) : Nat → Nat → Int64 → Int64
  | 0, _, a => a
  | z + 1, i, a => vaL T z (i + 1) (a * 10 + lN (bt T i) - 48)
noncomputable def nxV (T : Nat → Int32) (n p : Nat) : Int64 := if nxT T n p = 2 then vaL T (nxE T n p - nxS T n p) (nxS T n p) 0 else 0
section NX
variable {T : Nat → Int32} {n p : Nat}
theorem nxS_le (hp : p ≤ n) : p ≤ nxS T n p ∧ nxS T n p ≤ n := by
  have := skF_le (T := T) (n - p) p
  unfold nxS
  omega
theorem nxC_0 : (nxC T n p = 0) = (n ≤ nxS T n p) := by
  unfold nxC cl
  have := clB_rg (x := bt T (nxS T n p))
  apply propext
  split <;> omega
theorem nxC_le : nxC T n p ≤ 5 := by
  unfold nxC cl
  have := clB_rg (x := bt T (nxS T n p))
  split <;> omega
theorem nxE_le (hp : p ≤ n) : nxS T n p ≤ nxE T n p ∧ nxE T n p ≤ n := by
  have h1 := nxS_le (T := T) hp
  have h2 := nxC_0 (T := T) (n := n) (p := p)
  have h3 := exF_le (T := T) (k := nxC T n p) (n - (nxS T n p + 1)) (nxS T n p + 1)
  unfold nxE
  split
  · omega
  · next h =>
    rw [h2] at h
    split <;> omega
theorem nxT_le : nxT T n p ≤ 5 := by
  have := nxC_le (T := T) (n := n) (p := p)
  unfold nxT
  split <;> omega
end NX
/-- the class' reader -/
noncomputable def rO (A : Nat → Nat) (n a tk st : Nat) (vl : Int64) (fa : Nat) (fp : Int32) : aE := .inr (0, [.ref (A 13), .int (nI n), .int (nI a), .int (nI tk), .int (nI st), .long vl, .int (nI fa), .int fp])
noncomputable def rT (A : Nat → Nat) (T : Nat → Int32) (n p fa : Nat) (fp : Int32) : aE := rO A n (nxE T n p) (nxT T n p) (nxS T n p) (nxV T n p) fa fp
section CRX
variable {E : aEnv} {c : Nat} {ah : aHp} {A : Nat → Nat} {S : Nat → aE} {T : Nat → Int32} {n : Nat}
theorem c_signAt (hO : XO E ah A) (h13 : S 13 = .inl (2, 500, .inl T)) (hn : n ≤ 500) {a tk st fa : Nat} {vl : Int64} {fp : Int32} {p : Nat} (hp : p < 2 ^ 31) : EV E c 15 [.ref (A 14), .int (nI p)] (oh E ah A (su S 14 (rO A n a tk st vl fa fp))) (some (.int (if p < n then nI (bt T p) else -1))) (oh E ah A (su S 14 (rO A n a tk st vl fa fp))) := by
  refine e15 ?_
  have b1 := bt_i (T := T) (p := p)
  by_cases h : p < n
  · rw [if_pos h]
    unfold rO
    have e5 : ¬ Int32.ofNat 500 ≤ nI p := by
      show ¬ nI 500 ≤ nI p
      rw [nI_leE (by decide) hp]
      omega
    simp (disch := first | assumption | omega | decide | (simp only [List.length_cons, List.length_nil, Nat.reduceAdd, Nat.reduceLT]; done) | fail) only [r15_0, r15_1, r15_4, r15_5, r15_6, r15_9, r15_12, r15_13, r15_14, r15_17, r15_18, r15_21, r15_22, r15_25, r15_26, r15_27, r15_30, r15_31, r15_34, r15_35, hx_14 hO, hx_13 hO, su_at, su_ne, h13, gB, gN, b1, e5, oGF_is, WPo_some, List.getElem?_cons_succ, List.getElem?_cons_zero, kil_n, kil_i, kil_a, kil_u, kil_l, Option.toList_some, Option.toList_none, List.cons_append, List.nil_append, List.set_cons_succ, List.set_cons_zero, addm1, Nat.reduceAdd, List.length_cons, List.length_nil, Nat.reduceLT, nI_clamp, nI_toInt, nI_leL, nI_Lle, nI_ltL, nI_Llt, nI_eqL, nI_Leq, nI_leE, nI_ltE, nI_eqE, nI_eqM, nI_add, nI_addL, nI_Ladd, nI_mulL, nI_Lmul, pk_mul, pk_sub, nI_subL, nI_Lsub, i2l_nI, Int.toNat_natCast, Nat.not_lt_zero, Nat.zero_le, ifT, ifF, not_true_eq_false, not_false_eq_true, if_true, if_false, or_self, and_self, true_and, and_true, or_true, true_or, false_or, or_false, false_and, and_false]
  · rw [if_neg h]
    unfold rO
    simp (disch := first | assumption | omega | decide | (simp only [List.length_cons, List.length_nil, Nat.reduceAdd, Nat.reduceLT]; done) | fail) only [r15_0, r15_1, r15_4, r15_5, r15_6, r15_9, r15_12, r15_13, r15_14, r15_17, r15_18, r15_21, r15_22, r15_25, r15_26, r15_27, r15_30, r15_31, r15_34, r15_35, hx_14 hO, su_at, oGF_is, WPo_some, List.getElem?_cons_succ, List.getElem?_cons_zero, kil_n, kil_i, kil_a, kil_u, kil_l, Option.toList_some, Option.toList_none, List.cons_append, List.nil_append, List.set_cons_succ, List.set_cons_zero, addm1, Nat.reduceAdd, List.length_cons, List.length_nil, Nat.reduceLT, nI_clamp, nI_toInt, nI_leL, nI_Lle, nI_ltL, nI_Llt, nI_eqL, nI_Leq, nI_leE, nI_ltE, nI_eqE, nI_eqM, nI_add, nI_addL, nI_Ladd, nI_mulL, nI_Lmul, pk_mul, pk_sub, nI_subL, nI_Lsub, i2l_nI, Int.toNat_natCast, Nat.not_lt_zero, Nat.zero_le, ifT, ifF, not_true_eq_false, not_false_eq_true, if_true, if_false, or_self, and_self, true_and, and_true, or_true, true_or, false_or, or_false, false_and, and_false]
theorem c_tokenAt (hO : XO E ah A) (h13 : S 13 = .inl (2, 500, .inl T)) (hn : n ≤ 500) {a tk st fa : Nat} {vl : Int64} {fp : Int32} {p : Nat} (hp : p < 2 ^ 31) : EV E (c + 1) 14 [.ref (A 14), .int (nI p)] (oh E ah A (su S 14 (rO A n a tk st vl fa fp))) (some (.int (nI (cl T n p)))) (oh E ah A (su S 14 (rO A n a tk st vl fa fp))) := by
  refine e14 ?_
  have k := c_signAt (E := E) (c := c) hO h13 hn (a := a) (tk := tk) (st := st) (fa := fa) (vl := vl) (fp := fp) hp
  have ci : oCI (hg E (oh E ah A (su S 14 (rO A n a tk st vl fa fp))) (A 14)) = 0 := by rw [hx_14 hO, su_at]; rfl
  have b1 := bt_lt (T := T) (p := p)
  unfold cl clB
  by_cases h : p < n
  · rw [if_pos h] at k ⊢
    simp (disch := first | assumption | omega | decide | (simp only [List.length_cons, List.length_nil, Nat.reduceAdd, Nat.reduceLT]; done) | fail) only [r14_0, r14_1, r14_5, r14_6, r14_7, r14_8, r14_11, r14_12, r14_13, r14_14, r14_16, r14_19, r14_20, r14_22, r14_25, r14_26, r14_27, r14_28, r14_30, r14_33, r14_34, r14_36, r14_39, r14_40, r14_41, r14_42, r14_44, r14_47, r14_48, r14_49, r14_50, r14_52, r14_55, r14_56, r14_59, r14_60, q14_2 k ci, oGF_is, WPo_some, List.getElem?_cons_succ, List.getElem?_cons_zero, kil_n, kil_i, kil_a, kil_u, kil_l, Option.toList_some, Option.toList_none, List.cons_append, List.nil_append, List.set_cons_succ, List.set_cons_zero, addm1, Nat.reduceAdd, List.length_cons, List.length_nil, Nat.reduceLT, nI_clamp, nI_toInt, nI_leL, nI_Lle, nI_ltL, nI_Llt, nI_eqL, nI_Leq, nI_leE, nI_ltE, nI_eqE, nI_eqM, nI_add, nI_addL, nI_Ladd, nI_mulL, nI_Lmul, pk_mul, pk_sub, nI_subL, nI_Lsub, i2l_nI, Int.toNat_natCast, Nat.not_lt_zero, Nat.zero_le, ifT, ifF]
    by_cases h1 : 97 ≤ bt T p ∧ bt T p ≤ 122
    · simp (disch := first | assumption | omega | decide | (simp only [List.length_cons, List.length_nil, Nat.reduceAdd, Nat.reduceLT]; done) | fail) only [h1, nI_clamp, nI_toInt, nI_leL, nI_Lle, nI_ltL, nI_Llt, nI_eqL, nI_Leq, nI_leE, nI_ltE, nI_eqE, nI_eqM, nI_add, nI_addL, nI_Ladd, nI_mulL, nI_Lmul, pk_mul, pk_sub, nI_subL, nI_Lsub, i2l_nI, Int.toNat_natCast, Nat.not_lt_zero, Nat.zero_le, ifT, ifF, not_true_eq_false, not_false_eq_true, if_true, if_false, or_self, and_self, true_and, and_true, or_true, true_or, false_or, or_false, false_and, and_false, show ¬ bt T p < 97 by omega, show ¬ 122 < bt T p by omega]
      exact rfl
    · by_cases h2 : 48 ≤ bt T p ∧ bt T p ≤ 57
      · simp (disch := first | assumption | omega | decide | (simp only [List.length_cons, List.length_nil, Nat.reduceAdd, Nat.reduceLT]; done) | fail) only [h2, nI_clamp, nI_toInt, nI_leL, nI_Lle, nI_ltL, nI_Llt, nI_eqL, nI_Leq, nI_leE, nI_ltE, nI_eqE, nI_eqM, nI_add, nI_addL, nI_Ladd, nI_mulL, nI_Lmul, pk_mul, pk_sub, nI_subL, nI_Lsub, i2l_nI, Int.toNat_natCast, Nat.not_lt_zero, Nat.zero_le, ifT, ifF, not_true_eq_false, not_false_eq_true, if_true, if_false, or_self, and_self, true_and, and_true, or_true, true_or, false_or, or_false, false_and, and_false, show ¬ bt T p < 48 by omega, show ¬ 57 < bt T p by omega, show bt T p < 97 by omega]
        exact rfl
      · by_cases h3 : bt T p = 59
        · simp only [h3]
          simp
          exact rfl
        · by_cases h4 : bt T p = 45
          · simp only [h4]
            simp
            exact rfl
          · by_cases h5 : bt T p < 97
            · by_cases h6 : bt T p < 48
              · simp only [h1, h2, h3, h4, h5, h6, not_true_eq_false, not_false_eq_true, if_true, if_false, or_self, and_self, true_and, and_true, or_true, true_or, false_or, or_false, false_and, and_false]
                exact rfl
              · simp only [h1, h2, h3, h4, h5, h6, show 57 < bt T p by omega, not_true_eq_false, not_false_eq_true, if_true, if_false, or_self, and_self, true_and, and_true, or_true, true_or, false_or, or_false, false_and, and_false]
                exact rfl
            · simp only [h1, h2, h3, h4, h5, show 122 < bt T p by omega, show ¬ bt T p < 48 by omega, show 57 < bt T p by omega, not_true_eq_false, not_false_eq_true, if_true, if_false, or_self, and_self, true_and, and_true, or_true, true_or, false_or, or_false, false_and, and_false]
              exact rfl
  · rw [if_neg h] at k ⊢
    simp (disch := first | assumption | omega | decide | (simp only [List.length_cons, List.length_nil, Nat.reduceAdd, Nat.reduceLT]; done) | fail) only [r14_0, r14_1, r14_5, r14_6, r14_7, r14_8, r14_11, r14_12, r14_13, r14_14, r14_16, r14_19, r14_20, r14_22, r14_25, r14_26, r14_27, r14_28, r14_30, r14_33, r14_34, r14_36, r14_39, r14_40, r14_41, r14_42, r14_44, r14_47, r14_48, r14_49, r14_50, r14_52, r14_55, r14_56, r14_59, r14_60, q14_2 k ci, oGF_is, WPo_some, List.getElem?_cons_succ, List.getElem?_cons_zero, kil_n, kil_i, kil_a, kil_u, kil_l, Option.toList_some, Option.toList_none, List.cons_append, List.nil_append, List.set_cons_succ, List.set_cons_zero, addm1, Nat.reduceAdd, List.length_cons, List.length_nil, Nat.reduceLT, not_true_eq_false, not_false_eq_true, if_true, if_false, or_self, and_self, true_and, and_true, or_true, true_or, false_or, or_false, false_and, and_false]
    exact rfl
theorem l_va (hO : XO E ah A) (h13 : S 13 = .inl (2, 500, .inl T)) (hn : n ≤ 500) {a tk st fa : Nat} {vl : Int64} {fp : Int32} {l1 : Option Value} {e : Nat} (he : e ≤ n) : ∀ z i x, i + z = e → WP E (c + 1) 13 5 [some (.ref (A 14)), l1, some (.int (nI e)), some (.long x), none, some (.int (nI i))] [] (oh E ah A (su S 14 (rO A n a tk st vl fa fp))) (fun r1 x1 => r1 = some (.long (vaL T z i x)) ∧ x1 = oh E ah A (su S 14 (rO A n a tk st vl fa fp)))
  | 0, i, x, hz => by
    rw [show i = e by omega, r13_5]
    simp (disch := first | assumption | omega | decide | (simp only [List.length_cons, List.length_nil, Nat.reduceAdd, Nat.reduceLT]; done) | fail) only [r13_7, r13_8, r13_35, r13_36, oGF_is, WPo_some, List.getElem?_cons_succ, List.getElem?_cons_zero, kil_n, kil_i, kil_a, kil_u, kil_l, Option.toList_some, Option.toList_none, List.cons_append, List.nil_append, List.set_cons_succ, List.set_cons_zero, addm1, Nat.reduceAdd, List.length_cons, List.length_nil, Nat.reduceLT, nI_clamp, nI_toInt, nI_leL, nI_Lle, nI_ltL, nI_Llt, nI_eqL, nI_Leq, nI_leE, nI_ltE, nI_eqE, nI_eqM, nI_add, nI_addL, nI_Ladd, nI_mulL, nI_Lmul, pk_mul, pk_sub, nI_subL, nI_Lsub, i2l_nI, Int.toNat_natCast, Nat.not_lt_zero, Nat.zero_le, ifT, ifF, not_true_eq_false, not_false_eq_true, if_true, if_false, or_self, and_self, true_and, and_true, or_true, true_or, false_or, or_false, false_and, and_false]
    exact rfl
  | z + 1, i, x, hz => by
    have ih := l_va hO h13 hn (a := a) (tk := tk) (st := st) (fa := fa) (vl := vl) (fp := fp) (l1 := l1) he z (i + 1) (x * 10 + lN (bt T i) - 48) (by omega)
    have k := c_signAt (E := E) (c := c) hO h13 hn (a := a) (tk := tk) (st := st) (fa := fa) (vl := vl) (fp := fp) (show i < 2 ^ 31 by omega)
    rw [if_pos (show i < n by omega)] at k
    have b1 := bt_lt (T := T) (p := i)
    have ci : oCI (hg E (oh E ah A (su S 14 (rO A n a tk st vl fa fp))) (A 14)) = 0 := by rw [hx_14 hO, su_at]; rfl
    rw [r13_5]
    simp (disch := first | assumption | omega | decide | (simp only [List.length_cons, List.length_nil, Nat.reduceAdd, Nat.reduceLT]; done) | fail) only [r13_7, r13_8, r13_11, r13_12, r13_15, r13_16, r13_17, r13_22, r13_23, r13_24, r13_27, r13_28, r13_29, r13_32, q13_19 k ci, nI_l, oGF_is, WPo_some, List.getElem?_cons_succ, List.getElem?_cons_zero, kil_n, kil_i, kil_a, kil_u, kil_l, Option.toList_some, Option.toList_none, List.cons_append, List.nil_append, List.set_cons_succ, List.set_cons_zero, addm1, Nat.reduceAdd, List.length_cons, List.length_nil, Nat.reduceLT, nI_clamp, nI_toInt, nI_leL, nI_Lle, nI_ltL, nI_Llt, nI_eqL, nI_Leq, nI_leE, nI_ltE, nI_eqE, nI_eqM, nI_add, nI_addL, nI_Ladd, nI_mulL, nI_Lmul, pk_mul, pk_sub, nI_subL, nI_Lsub, i2l_nI, Int.toNat_natCast, Nat.not_lt_zero, Nat.zero_le, ifT, ifF, not_true_eq_false, not_false_eq_true, if_true, if_false, or_self, and_self, true_and, and_true, or_true, true_or, false_or, or_false, false_and, and_false]
    exact ih
theorem c_valueOf (hO : XO E ah A) (h13 : S 13 = .inl (2, 500, .inl T)) (hn : n ≤ 500) {a tk st fa : Nat} {vl : Int64} {fp : Int32} {s e : Nat} (he : e ≤ n) (hs : s ≤ e) : EV E (c + 1) 13 [.ref (A 14), .int (nI s), .int (nI e)] (oh E ah A (su S 14 (rO A n a tk st vl fa fp))) (some (.long (vaL T (e - s) s 0))) (oh E ah A (su S 14 (rO A n a tk st vl fa fp))) := by
  refine e13 ?_
  have l := l_va (E := E) (c := c) hO h13 hn (a := a) (tk := tk) (st := st) (fa := fa) (vl := vl) (fp := fp) (l1 := some (.int (nI s))) he (e - s) s 0 (by omega)
  simp (disch := first | assumption | omega | decide | (simp only [List.length_cons, List.length_nil, Nat.reduceAdd, Nat.reduceLT]; done) | fail) only [r13_0, r13_1, r13_2, r13_3, oGF_is, WPo_some, List.getElem?_cons_succ, List.getElem?_cons_zero, kil_n, kil_i, kil_a, kil_u, kil_l, Option.toList_some, Option.toList_none, List.cons_append, List.nil_append, List.set_cons_succ, List.set_cons_zero, addm1, Nat.reduceAdd, List.length_cons, List.length_nil, Nat.reduceLT]
  exact l
theorem l_nt1 (hO : XO E ah A) (h13 : S 13 = .inl (2, 500, .inl T)) (hn : n ≤ 500) {tk st fa : Nat} {vl : Int64} {fp : Int32} {Q : Option Value → aHp → Prop} : ∀ z p, p + z = n → WP E (c + 1) 12 50 [some (.ref (A 14)), none] [] (oh E ah A (su S 14 (rO A n (skF T z p) tk st vl fa fp))) Q → WP E (c + 1) 12 0 [some (.ref (A 14)), none] [] (oh E ah A (su S 14 (rO A n p tk st vl fa fp))) Q
  | 0, p, hz, K => by
    rw [show p = n by omega] at K ⊢
    rw [skF] at K
    rw [r12_0]
    unfold rO at K ⊢
    simp (disch := first | assumption | omega | decide | (simp only [List.length_cons, List.length_nil, Nat.reduceAdd, Nat.reduceLT]; done) | fail) only [r12_1, r12_4, r12_5, r12_8, hx_14 hO, su_at, oGF_is, WPo_some, List.getElem?_cons_succ, List.getElem?_cons_zero, kil_n, kil_i, kil_a, kil_u, kil_l, Option.toList_some, Option.toList_none, List.cons_append, List.nil_append, List.set_cons_succ, List.set_cons_zero, addm1, Nat.reduceAdd, List.length_cons, List.length_nil, Nat.reduceLT, nI_clamp, nI_toInt, nI_leL, nI_Lle, nI_ltL, nI_Llt, nI_eqL, nI_Leq, nI_leE, nI_ltE, nI_eqE, nI_eqM, nI_add, nI_addL, nI_Ladd, nI_mulL, nI_Lmul, pk_mul, pk_sub, nI_subL, nI_Lsub, i2l_nI, Int.toNat_natCast, Nat.not_lt_zero, Nat.zero_le, ifT, ifF, not_true_eq_false, not_false_eq_true, if_true, if_false, or_self, and_self, true_and, and_true, or_true, true_or, false_or, or_false, false_and, and_false]
    exact K
  | z + 1, p, hz, K => by
    have k := c_signAt (E := E) (c := c) hO h13 hn (a := p) (tk := tk) (st := st) (fa := fa) (vl := vl) (fp := fp) (show p < 2 ^ 31 by omega)
    rw [if_pos (show p < n by omega)] at k
    have b1 := bt_lt (T := T) (p := p)
    have ci : oCI (hg E (oh E ah A (su S 14 (rO A n p tk st vl fa fp))) (A 14)) = 0 := by rw [hx_14 hO, su_at]; rfl
    rw [r12_0]
    by_cases h : bt T p = 32 ∨ bt T p = 10
    · rw [skF, if_pos h] at K
      have ih := l_nt1 hO h13 hn (tk := tk) (st := st) (fa := fa) (vl := vl) (fp := fp) (Q := Q) z (p + 1) (by omega) K
      unfold rO at ih k ci ⊢
      by_cases h1 : bt T p = 32
      · simp (disch := first | assumption | omega | decide | (simp only [List.length_cons, List.length_nil, Nat.reduceAdd, Nat.reduceLT]; done) | fail) only [r12_1, r12_4, r12_5, r12_8, r12_11, r12_12, r12_13, r12_19, r12_21, r12_24, r12_25, r12_26, r12_32, r12_34, r12_37, r12_38, r12_38i, r12_39, r12_42, r12_43, r12_44, r12_47, hx_14 hO, sx_14 hO, su_at, su_su, pf_20, q12_16 k ci, q12_29 k ci, h1, oGF_is, WPo_some, List.getElem?_cons_succ, List.getElem?_cons_zero, kil_n, kil_i, kil_a, kil_u, kil_l, Option.toList_some, Option.toList_none, List.cons_append, List.nil_append, List.set_cons_succ, List.set_cons_zero, addm1, Nat.reduceAdd, List.length_cons, List.length_nil, Nat.reduceLT, nI_clamp, nI_toInt, nI_leL, nI_Lle, nI_ltL, nI_Llt, nI_eqL, nI_Leq, nI_leE, nI_ltE, nI_eqE, nI_eqM, nI_add, nI_addL, nI_Ladd, nI_mulL, nI_Lmul, pk_mul, pk_sub, nI_subL, nI_Lsub, i2l_nI, Int.toNat_natCast, Nat.not_lt_zero, Nat.zero_le, ifT, ifF, not_true_eq_false, not_false_eq_true, if_true, if_false, or_self, and_self, true_and, and_true, or_true, true_or, false_or, or_false, false_and, and_false]
        exact ih
      · have h2 : bt T p = 10 := by omega
        simp (disch := first | assumption | omega | decide | (simp only [List.length_cons, List.length_nil, Nat.reduceAdd, Nat.reduceLT]; done) | fail) only [r12_1, r12_4, r12_5, r12_8, r12_11, r12_12, r12_13, r12_19, r12_21, r12_24, r12_25, r12_26, r12_32, r12_34, r12_37, r12_38, r12_38i, r12_39, r12_42, r12_43, r12_44, r12_47, hx_14 hO, sx_14 hO, su_at, su_su, pf_20, q12_16 k ci, q12_29 k ci, h2, oGF_is, WPo_some, List.getElem?_cons_succ, List.getElem?_cons_zero, kil_n, kil_i, kil_a, kil_u, kil_l, Option.toList_some, Option.toList_none, List.cons_append, List.nil_append, List.set_cons_succ, List.set_cons_zero, addm1, Nat.reduceAdd, List.length_cons, List.length_nil, Nat.reduceLT, nI_clamp, nI_toInt, nI_leL, nI_Lle, nI_ltL, nI_Llt, nI_eqL, nI_Leq, nI_leE, nI_ltE, nI_eqE, nI_eqM, nI_add, nI_addL, nI_Ladd, nI_mulL, nI_Lmul, pk_mul, pk_sub, nI_subL, nI_Lsub, i2l_nI, Int.toNat_natCast, Nat.not_lt_zero, Nat.zero_le, ifT, ifF, not_true_eq_false, not_false_eq_true, if_true, if_false, or_self, and_self, true_and, and_true, or_true, true_or, false_or, or_false, false_and, and_false]
        exact ih
    · rw [skF, if_neg h] at K
      unfold rO at K k ci ⊢
      simp (disch := first | assumption | omega | decide | (simp only [List.length_cons, List.length_nil, Nat.reduceAdd, Nat.reduceLT]; done) | fail) only [r12_1, r12_4, r12_5, r12_8, r12_11, r12_12, r12_13, r12_19, r12_21, r12_24, r12_25, r12_26, r12_32, r12_34, hx_14 hO, su_at, q12_16 k ci, q12_29 k ci, show ¬ bt T p = 32 by omega, show ¬ bt T p = 10 by omega, oGF_is, WPo_some, List.getElem?_cons_succ, List.getElem?_cons_zero, kil_n, kil_i, kil_a, kil_u, kil_l, Option.toList_some, Option.toList_none, List.cons_append, List.nil_append, List.set_cons_succ, List.set_cons_zero, addm1, Nat.reduceAdd, List.length_cons, List.length_nil, Nat.reduceLT, nI_clamp, nI_toInt, nI_leL, nI_Lle, nI_ltL, nI_Llt, nI_eqL, nI_Leq, nI_leE, nI_ltE, nI_eqE, nI_eqM, nI_add, nI_addL, nI_Ladd, nI_mulL, nI_Lmul, pk_mul, pk_sub, nI_subL, nI_Lsub, i2l_nI, Int.toNat_natCast, Nat.not_lt_zero, Nat.zero_le, ifT, ifF, not_true_eq_false, not_false_eq_true, if_true, if_false, or_self, and_self, true_and, and_true, or_true, true_or, false_or, or_false, false_and, and_false]
      exact K
theorem l_nt2 (hO : XO E ah A) (h13 : S 13 = .inl (2, 500, .inl T)) (hn : n ≤ 500) {tk st fa : Nat} (htk : tk ≤ 5) {vl : Int64} {fp : Int32} {Q : Option Value → aHp → Prop} : ∀ z p, p + z = n → WP E (c + 2) 12 152 [some (.ref (A 14)), some (.int 1)] [] (oh E ah A (su S 14 (rO A n (exF T tk z p) tk st vl fa fp))) Q → WP E (c + 2) 12 109 [some (.ref (A 14)), some (.int 1)] [] (oh E ah A (su S 14 (rO A n p tk st vl fa fp))) Q
  | 0, p, hz, K => by
    rw [show p = n by omega] at K ⊢
    rw [exF] at K
    rw [r12_109]
    unfold rO at K ⊢
    simp (disch := first | assumption | omega | decide | (simp only [List.length_cons, List.length_nil, Nat.reduceAdd, Nat.reduceLT]; done) | fail) only [r12_110, r12_113, r12_114, r12_117, r12_118, r12_121, hx_14 hO, su_at, oGF_is, WPo_some, List.getElem?_cons_succ, List.getElem?_cons_zero, kil_n, kil_i, kil_a, kil_u, kil_l, Option.toList_some, Option.toList_none, List.cons_append, List.nil_append, List.set_cons_succ, List.set_cons_zero, addm1, Nat.reduceAdd, List.length_cons, List.length_nil, Nat.reduceLT, nI_clamp, nI_toInt, nI_leL, nI_Lle, nI_ltL, nI_Llt, nI_eqL, nI_Leq, nI_leE, nI_ltE, nI_eqE, nI_eqM, nI_add, nI_addL, nI_Ladd, nI_mulL, nI_Lmul, pk_mul, pk_sub, nI_subL, nI_Lsub, i2l_nI, Int.toNat_natCast, Nat.not_lt_zero, Nat.zero_le, ifT, ifF, not_true_eq_false, not_false_eq_true, if_true, if_false, or_self, and_self, true_and, and_true, or_true, true_or, false_or, or_false, false_and, and_false, show ¬ (1 : Int32) = 0 by decide]
    exact K
  | z + 1, p, hz, K => by
    have k := c_tokenAt (E := E) (c := c) hO h13 hn (a := p) (tk := tk) (st := st) (fa := fa) (vl := vl) (fp := fp) (show p < 2 ^ 31 by omega)
    have e1 : cl T n p = clB (bt T p) := if_pos (by omega)
    have b1 := clB_rg (x := bt T p)
    rw [e1] at k
    have ci : oCI (hg E (oh E ah A (su S 14 (rO A n p tk st vl fa fp))) (A 14)) = 0 := by rw [hx_14 hO, su_at]; rfl
    rw [r12_109]
    by_cases h : clB (bt T p) = tk
    · rw [exF, if_pos h] at K
      have ih := l_nt2 hO h13 hn (st := st) (fa := fa) htk (vl := vl) (fp := fp) (Q := Q) z (p + 1) (by omega) K
      unfold rO at ih k ci ⊢
      simp (disch := first | assumption | omega | decide | (simp only [List.length_cons, List.length_nil, Nat.reduceAdd, Nat.reduceLT]; done) | fail) only [r12_110, r12_113, r12_114, r12_117, r12_118, r12_121, r12_124, r12_125, r12_126, r12_132, r12_133, r12_136, r12_139, r12_140, r12_140i, r12_141, r12_144, r12_145, r12_146, r12_149, hx_14 hO, sx_14 hO, su_at, su_su, pf_20, q12_129 k ci, h, oGF_is, WPo_some, List.getElem?_cons_succ, List.getElem?_cons_zero, kil_n, kil_i, kil_a, kil_u, kil_l, Option.toList_some, Option.toList_none, List.cons_append, List.nil_append, List.set_cons_succ, List.set_cons_zero, addm1, Nat.reduceAdd, List.length_cons, List.length_nil, Nat.reduceLT, nI_clamp, nI_toInt, nI_leL, nI_Lle, nI_ltL, nI_Llt, nI_eqL, nI_Leq, nI_leE, nI_ltE, nI_eqE, nI_eqM, nI_add, nI_addL, nI_Ladd, nI_mulL, nI_Lmul, pk_mul, pk_sub, nI_subL, nI_Lsub, i2l_nI, Int.toNat_natCast, Nat.not_lt_zero, Nat.zero_le, ifT, ifF, not_true_eq_false, not_false_eq_true, if_true, if_false, or_self, and_self, true_and, and_true, or_true, true_or, false_or, or_false, false_and, and_false, show ¬ (1 : Int32) = 0 by decide]
      exact ih
    · rw [exF, if_neg h] at K
      unfold rO at K k ci ⊢
      simp (disch := first | assumption | omega | decide | (simp only [List.length_cons, List.length_nil, Nat.reduceAdd, Nat.reduceLT]; done) | fail) only [r12_110, r12_113, r12_114, r12_117, r12_118, r12_121, r12_124, r12_125, r12_126, r12_132, r12_133, r12_136, hx_14 hO, su_at, q12_129 k ci, h, oGF_is, WPo_some, List.getElem?_cons_succ, List.getElem?_cons_zero, kil_n, kil_i, kil_a, kil_u, kil_l, Option.toList_some, Option.toList_none, List.cons_append, List.nil_append, List.set_cons_succ, List.set_cons_zero, addm1, Nat.reduceAdd, List.length_cons, List.length_nil, Nat.reduceLT, nI_clamp, nI_toInt, nI_leL, nI_Lle, nI_ltL, nI_Llt, nI_eqL, nI_Leq, nI_leE, nI_ltE, nI_eqE, nI_eqM, nI_add, nI_addL, nI_Ladd, nI_mulL, nI_Lmul, pk_mul, pk_sub, nI_subL, nI_Lsub, i2l_nI, Int.toNat_natCast, Nat.not_lt_zero, Nat.zero_le, ifT, ifF, not_true_eq_false, not_false_eq_true, if_true, if_false, or_self, and_self, true_and, and_true, or_true, true_or, false_or, or_false, false_and, and_false, show ¬ (1 : Int32) = 0 by decide]
      exact K
/-- the end of it: a number too long, and its value -/
theorem l_nt3 (hO : XO E ah A) (h13 : S 13 = .inl (2, 500, .inl T)) (hn : n ≤ 500) {p : Nat} (hp : p ≤ n) {fa : Nat} {vl : Int64} {fp : Int32} {l1 : Option Value} : WP E (c + 2) 12 152 [some (.ref (A 14)), l1] [] (oh E ah A (su S 14 (rO A n (nxE T n p) (nxC T n p) (nxS T n p) vl fa fp))) (fun r1 x1 => r1 = none ∧ x1 = oh E ah A (su S 14 (rT A T n p fa fp))) := by
  have h1 := nxS_le (T := T) hp
  have h2 := nxE_le (T := T) hp
  have h3 := nxC_le (T := T) (n := n) (p := p)
  unfold rT nxV nxT
  have ci : ∀ a b c d e f g, oCI (hg E (oh E ah A (su S 14 (rO A a b c d e f g))) (A 14)) = 0 := fun a b c d e f g => by rw [hx_14 hO, su_at]; rfl
  by_cases g1 : nxC T n p = 2
  · by_cases g2 : 12 < nxE T n p - nxS T n p
    · rw [if_pos ⟨g1, g2⟩, g1]
      unfold rO
      simp (disch := first | assumption | omega | decide | (simp only [List.length_cons, List.length_nil, Nat.reduceAdd, Nat.reduceLT]; done) | fail) only [r12_152, r12_153, r12_156, r12_157, r12_160, r12_161, r12_164, r12_165, r12_168, r12_169, r12_171, r12_174, r12_175, r12_176, r12_179, r12_180, r12_181, r12_184, r12_185, r12_188, r12_189, r12_190, r12_193, r12_194, r12_200, r12_203, r12_204, r12_207, hx_14 hO, sx_14 hO, su_at, su_su, pf_30, pf_51, oGF_is, WPo_some, List.getElem?_cons_succ, List.getElem?_cons_zero, kil_n, kil_i, kil_a, kil_u, kil_l, Option.toList_some, Option.toList_none, List.cons_append, List.nil_append, List.set_cons_succ, List.set_cons_zero, addm1, Nat.reduceAdd, List.length_cons, List.length_nil, Nat.reduceLT, nI_clamp, nI_toInt, nI_leL, nI_Lle, nI_ltL, nI_Llt, nI_eqL, nI_Leq, nI_leE, nI_ltE, nI_eqE, nI_eqM, nI_add, nI_addL, nI_Ladd, nI_mulL, nI_Lmul, pk_mul, pk_sub, nI_subL, nI_Lsub, i2l_nI, Int.toNat_natCast, Nat.not_lt_zero, Nat.zero_le, ifT, ifF, not_true_eq_false, not_false_eq_true, if_true, if_false, or_self, and_self, true_and, and_true, or_true, true_or, false_or, or_false, false_and, and_false, show ¬ (5 : Int32) = 2 by decide]
      exact rfl
    · rw [if_neg (fun z => g2 z.2), if_pos g1, g1]
      have k := c_valueOf (E := E) (c := c) hO h13 hn (a := nxE T n p) (tk := 2) (st := nxS T n p) (fa := fa) (vl := vl) (fp := fp) (s := nxS T n p) (e := nxE T n p) h2.2 h2.1
      have ci := ci n (nxE T n p) 2 (nxS T n p) vl fa fp
      unfold rO at k ci ⊢
      simp (disch := first | assumption | omega | decide | (simp only [List.length_cons, List.length_nil, Nat.reduceAdd, Nat.reduceLT]; done) | fail) only [r12_152, r12_153, r12_156, r12_157, r12_160, r12_161, r12_164, r12_165, r12_168, r12_169, r12_171, r12_174, r12_175, r12_176, r12_179, r12_180, r12_181, r12_184, r12_185, r12_188, r12_189, r12_190, r12_193, r12_194, r12_200, r12_203, r12_204, r12_207, hx_14 hO, sx_14 hO, su_at, su_su, pf_30, pf_51, q12_197 k ci, oGF_is, WPo_some, List.getElem?_cons_succ, List.getElem?_cons_zero, kil_n, kil_i, kil_a, kil_u, kil_l, Option.toList_some, Option.toList_none, List.cons_append, List.nil_append, List.set_cons_succ, List.set_cons_zero, addm1, Nat.reduceAdd, List.length_cons, List.length_nil, Nat.reduceLT, nI_clamp, nI_toInt, nI_leL, nI_Lle, nI_ltL, nI_Llt, nI_eqL, nI_Leq, nI_leE, nI_ltE, nI_eqE, nI_eqM, nI_add, nI_addL, nI_Ladd, nI_mulL, nI_Lmul, pk_mul, pk_sub, nI_subL, nI_Lsub, i2l_nI, Int.toNat_natCast, Nat.not_lt_zero, Nat.zero_le, ifT, ifF, not_true_eq_false, not_false_eq_true, if_true, if_false, or_self, and_self, true_and, and_true, or_true, true_or, false_or, or_false, false_and, and_false]
  · rw [if_neg (fun z => g1 z.1), if_neg g1]
    unfold rO
    simp (disch := first | assumption | omega | decide | (simp only [List.length_cons, List.length_nil, Nat.reduceAdd, Nat.reduceLT]; done) | fail) only [r12_152, r12_153, r12_156, r12_157, r12_160, r12_161, r12_164, r12_165, r12_168, r12_169, r12_171, r12_174, r12_175, r12_176, r12_179, r12_180, r12_181, r12_184, r12_185, r12_188, r12_189, r12_190, r12_193, r12_194, r12_200, r12_203, r12_204, r12_207, hx_14 hO, sx_14 hO, su_at, su_su, pf_30, pf_51, g1, oGF_is, WPo_some, List.getElem?_cons_succ, List.getElem?_cons_zero, kil_n, kil_i, kil_a, kil_u, kil_l, Option.toList_some, Option.toList_none, List.cons_append, List.nil_append, List.set_cons_succ, List.set_cons_zero, addm1, Nat.reduceAdd, List.length_cons, List.length_nil, Nat.reduceLT, nI_clamp, nI_toInt, nI_leL, nI_Lle, nI_ltL, nI_Llt, nI_eqL, nI_Leq, nI_leE, nI_ltE, nI_eqE, nI_eqM, nI_add, nI_addL, nI_Ladd, nI_mulL, nI_Lmul, pk_mul, pk_sub, nI_subL, nI_Lsub, i2l_nI, Int.toNat_natCast, Nat.not_lt_zero, Nat.zero_le, ifT, ifF, not_true_eq_false, not_false_eq_true, if_true, if_false, or_self, and_self, true_and, and_true, or_true, true_or, false_or, or_false, false_and, and_false]
theorem c_next (hO : XO E ah A) (h13 : S 13 = .inl (2, 500, .inl T)) (hn : n ≤ 500) {p : Nat} (hp : p ≤ n) {tk st fa : Nat} {vl : Int64} {fp : Int32} : EV E (c + 2) 12 [.ref (A 14)] (oh E ah A (su S 14 (rO A n p tk st vl fa fp))) none (oh E ah A (su S 14 (rT A T n p fa fp))) := by
  refine e12 ?_
  have h1 := nxS_le (T := T) hp
  have h2 := nxE_le (T := T) hp
  have h3 := nxC_le (T := T) (n := n) (p := p)
  refine l_nt1 (c := c + 1) hO h13 hn (n - p) p (by omega) ?_
  show WP E (c + 2) 12 50 _ _ (oh E ah A (su S 14 (rO A n (nxS T n p) tk st vl fa fp))) _
  have k := c_tokenAt (E := E) (c := c) hO h13 hn (a := nxS T n p) (tk := tk) (st := nxS T n p) (fa := fa) (vl := vl) (fp := fp) (show nxS T n p < 2 ^ 31 by omega)
  have ci : oCI (hg E (oh E ah A (su S 14 (rO A n (nxS T n p) tk (nxS T n p) vl fa fp))) (A 14)) = 0 := by rw [hx_14 hO, su_at]; rfl
  have e0 : cl T n (nxS T n p) = nxC T n p := rfl
  rw [e0] at k
  by_cases g0 : nxC T n p = 0
  · have f := fun l1 => l_nt3 (c := c) hO h13 hn hp (S := S) (fa := fa) (vl := vl) (fp := fp) (l1 := l1)
    have eE : nxE T n p = nxS T n p := if_pos g0
    rw [g0] at k
    rw [eE, g0] at f
    unfold rO at k ci f ⊢
    simp (disch := first | assumption | omega | decide | (simp only [List.length_cons, List.length_nil, Nat.reduceAdd, Nat.reduceLT]; done) | fail) only [r12_50, r12_51, r12_52, r12_55, r12_58, r12_59, r12_60, r12_61, r12_67, r12_70, r12_71, r12_74, r12_77, r12_78, r12_78i, r12_79, r12_82, r12_83, r12_84, r12_87, r12_88, r12_91, r12_92, r12_95, r12_96, r12_99, r12_100, r12_103, r12_104, r12_107, r12_108, r12_109, r12_110, hx_14 hO, sx_14 hO, su_at, su_su, pf_40, pf_30, q12_64 k ci, oGF_is, WPo_some, List.getElem?_cons_succ, List.getElem?_cons_zero, kil_n, kil_i, kil_a, kil_u, kil_l, Option.toList_some, Option.toList_none, List.cons_append, List.nil_append, List.set_cons_succ, List.set_cons_zero, addm1, Nat.reduceAdd, List.length_cons, List.length_nil, Nat.reduceLT, nI_clamp, nI_toInt, nI_leL, nI_Lle, nI_ltL, nI_Llt, nI_eqL, nI_Leq, nI_leE, nI_ltE, nI_eqE, nI_eqM, nI_add, nI_addL, nI_Ladd, nI_mulL, nI_Lmul, pk_mul, pk_sub, nI_subL, nI_Lsub, i2l_nI, Int.toNat_natCast, Nat.not_lt_zero, Nat.zero_le, ifT, ifF, not_true_eq_false, not_false_eq_true, if_true, if_false, or_self, and_self, true_and, and_true, or_true, true_or, false_or, or_false, false_and, and_false, show ¬ (0 : Int32) = 1 by decide, show ¬ (0 : Int32) = 2 by decide]
    exact f _
  · by_cases g1 : nxC T n p = 1 ∨ nxC T n p = 2
    · have l := l_nt2 (c := c) hO h13 hn (tk := nxC T n p) (st := nxS T n p) (fa := fa) h3 (vl := vl) (fp := fp) (Q := fun r1 x1 => r1 = none ∧ x1 = oh E ah A (su S 14 (rT A T n p fa fp))) (n - (nxS T n p + 1)) (nxS T n p + 1) (by rw [nxC_0] at g0; omega) (by
        have eE : nxE T n p = exF T (nxC T n p) (n - (nxS T n p + 1)) (nxS T n p + 1) := by unfold nxE; rw [if_neg g0, if_pos g1]
        rw [← eE]
        exact l_nt3 (c := c) hO h13 hn hp)
      generalize hC : nxC T n p = C at *
      unfold rO at k ci l ⊢
      rcases g1 with rfl | rfl
      · simp (disch := first | assumption | omega | decide | (simp only [List.length_cons, List.length_nil, Nat.reduceAdd, Nat.reduceLT]; done) | fail) only [r12_50, r12_51, r12_52, r12_55, r12_58, r12_59, r12_60, r12_61, r12_67, r12_70, r12_71, r12_74, r12_77, r12_78, r12_78i, r12_79, r12_82, r12_83, r12_84, r12_87, r12_88, r12_91, r12_92, r12_95, r12_96, r12_99, r12_100, r12_103, r12_104, r12_107, r12_108, hx_14 hO, sx_14 hO, su_at, su_su, pf_40, pf_30, pf_20, q12_64 k ci, oGF_is, WPo_some, List.getElem?_cons_succ, List.getElem?_cons_zero, kil_n, kil_i, kil_a, kil_u, kil_l, Option.toList_some, Option.toList_none, List.cons_append, List.nil_append, List.set_cons_succ, List.set_cons_zero, addm1, Nat.reduceAdd, List.length_cons, List.length_nil, Nat.reduceLT, nI_clamp, nI_toInt, nI_leL, nI_Lle, nI_ltL, nI_Llt, nI_eqL, nI_Leq, nI_leE, nI_ltE, nI_eqE, nI_eqM, nI_add, nI_addL, nI_Ladd, nI_mulL, nI_Lmul, pk_mul, pk_sub, nI_subL, nI_Lsub, i2l_nI, Int.toNat_natCast, Nat.not_lt_zero, Nat.zero_le, ifT, ifF, not_true_eq_false, not_false_eq_true, if_true, if_false, or_self, and_self, true_and, and_true, or_true, true_or, false_or, or_false, false_and, and_false]
        exact l
      · simp (disch := first | assumption | omega | decide | (simp only [List.length_cons, List.length_nil, Nat.reduceAdd, Nat.reduceLT]; done) | fail) only [r12_50, r12_51, r12_52, r12_55, r12_58, r12_59, r12_60, r12_61, r12_67, r12_70, r12_71, r12_74, r12_77, r12_78, r12_78i, r12_79, r12_82, r12_83, r12_84, r12_87, r12_88, r12_91, r12_92, r12_95, r12_96, r12_99, r12_100, r12_103, r12_104, r12_107, r12_108, hx_14 hO, sx_14 hO, su_at, su_su, pf_40, pf_30, pf_20, q12_64 k ci, oGF_is, WPo_some, List.getElem?_cons_succ, List.getElem?_cons_zero, kil_n, kil_i, kil_a, kil_u, kil_l, Option.toList_some, Option.toList_none, List.cons_append, List.nil_append, List.set_cons_succ, List.set_cons_zero, addm1, Nat.reduceAdd, List.length_cons, List.length_nil, Nat.reduceLT, nI_clamp, nI_toInt, nI_leL, nI_Lle, nI_ltL, nI_Llt, nI_eqL, nI_Leq, nI_leE, nI_ltE, nI_eqE, nI_eqM, nI_add, nI_addL, nI_Ladd, nI_mulL, nI_Lmul, pk_mul, pk_sub, nI_subL, nI_Lsub, i2l_nI, Int.toNat_natCast, Nat.not_lt_zero, Nat.zero_le, ifT, ifF, not_true_eq_false, not_false_eq_true, if_true, if_false, or_self, and_self, true_and, and_true, or_true, true_or, false_or, or_false, false_and, and_false]
        exact l
    · have f := fun l1 => l_nt3 (c := c) hO h13 hn hp (S := S) (fa := fa) (vl := vl) (fp := fp) (l1 := l1)
      have eE : nxE T n p = nxS T n p + 1 := by unfold nxE; rw [if_neg g0, if_neg g1]
      rw [eE] at f
      generalize hC : nxC T n p = C at *
      unfold rO at k ci f ⊢
      simp (disch := first | assumption | omega | decide | (simp only [List.length_cons, List.length_nil, Nat.reduceAdd, Nat.reduceLT]; done) | fail) only [r12_50, r12_51, r12_52, r12_55, r12_58, r12_59, r12_60, r12_61, r12_67, r12_70, r12_71, r12_74, r12_77, r12_78, r12_78i, r12_79, r12_82, r12_83, r12_84, r12_87, r12_88, r12_91, r12_92, r12_95, r12_96, r12_99, r12_100, r12_103, r12_104, r12_107, r12_108, r12_109, r12_110, hx_14 hO, sx_14 hO, su_at, su_su, pf_40, pf_30, pf_20, q12_64 k ci, oGF_is, WPo_some, List.getElem?_cons_succ, List.getElem?_cons_zero, kil_n, kil_i, kil_a, kil_u, kil_l, Option.toList_some, Option.toList_none, List.cons_append, List.nil_append, List.set_cons_succ, List.set_cons_zero, addm1, Nat.reduceAdd, List.length_cons, List.length_nil, Nat.reduceLT, nI_clamp, nI_toInt, nI_leL, nI_Lle, nI_ltL, nI_Llt, nI_eqL, nI_Leq, nI_leE, nI_ltE, nI_eqE, nI_eqM, nI_add, nI_addL, nI_Ladd, nI_mulL, nI_Lmul, pk_mul, pk_sub, nI_subL, nI_Lsub, i2l_nI, Int.toNat_natCast, Nat.not_lt_zero, Nat.zero_le, ifT, ifF, not_true_eq_false, not_false_eq_true, if_true, if_false, or_self, and_self, true_and, and_true, or_true, true_or, false_or, or_false, false_and, and_false, show ¬ C = 0 by omega, show ¬ C = 1 by omega, show ¬ C = 2 by omega]
      exact f _
end CRX

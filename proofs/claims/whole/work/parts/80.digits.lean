/-! Figures of a number -/
theorem tdiv_rg {x y : Int} (hx : -9223372036854775808 ≤ x ∧ x < 9223372036854775808) (hy : 0 < y) : -9223372036854775808 ≤ x.tdiv y ∧ x.tdiv y < 9223372036854775808 := by
  have h1 := Int.natAbs_tdiv_le_natAbs x y
  by_cases z : 0 ≤ x
  · have := Int.tdiv_nonneg z (Int.le_of_lt hy)
    omega
  · have h2 : (-x).tdiv y = - x.tdiv y := Int.neg_tdiv ..
    have h3 := Int.tdiv_nonneg (a := -x) (b := y) (by omega) (Int.le_of_lt hy)
    omega
theorem i64_div {x y : Int64} (hy : 0 < y.toInt) : (x / y).toInt = x.toInt.tdiv y.toInt := by
  have h1 := tdiv_rg (i64_rg x) hy
  rw [Int64.toInt_div]
  exact bm64 h1.1 h1.2
theorem i64_rem {x y : Int64} (hy : 0 < y.toInt) : (x - x / y * y).toInt = x.toInt.tmod y.toInt := by
  have h1 := i64_rg x
  have h2 := i64_rg y
  have h3 : x.toInt.tdiv y.toInt * y.toInt = x.toInt - x.toInt.tmod y.toInt := by
    have := Int.mul_tdiv_add_tmod x.toInt y.toInt
    rw [Int.mul_comm] at this
    omega
  have h4 : (x - x / y * y) = iL (x.toInt - x.toInt.tdiv y.toInt * y.toInt) := by
    rw [iL_of x, iL_of y]
    have e1 : iL x.toInt / iL y.toInt = iL (x.toInt.tdiv y.toInt) := by
      rw [← iL_of x, ← iL_of y, ← i64_div hy, ← iL_of]
    rw [e1, iL_mul, iL_sub, iL_toInt h1.1 h1.2, iL_toInt h2.1 h2.2]
  rw [h4, h3]
  have h7 : -9223372036854775808 ≤ x.toInt.tmod y.toInt ∧ x.toInt.tmod y.toInt < 9223372036854775808 := by
    have a1 := Int.tmod_lt_of_pos x.toInt hy
    have a2 := Int.lt_tmod_of_pos x.toInt hy
    omega
  rw [iL_toInt (by omega) (by omega)]
  omega
theorem xor_neg {x y : Int64} (hy : 0 < y.toInt) : ((x ^^^ y).toInt < 0) = (x.toInt < 0) := by
  have h1 : ∀ z : Int64, (z.toBitVec.msb = true) = (z.toInt < 0) := fun z => by
    rw [BitVec.msb_eq_toInt]
    exact propext (decide_eq_true_iff)
  have h2 : y.toBitVec.msb = false := by
    cases h : y.toBitVec.msb with
    | false => rfl
    | true =>
      rw [h1] at h
      omega
  rw [← h1, ← h1, Int64.toBitVec_xor, BitVec.msb_xor, h2, Bool.xor_false]
theorem tm_em {x y : Int} (hy : 0 < y) : x % y = if x < 0 ∧ ¬ x.tmod y = 0 then x.tmod y + y else x.tmod y := by
  by_cases z : 0 ≤ x
  · rw [if_neg (by omega), Int.tmod_eq_emod_of_nonneg z]
  · have h1 := Int.emod_nonneg x (show y ≠ 0 by omega)
    have h2 := Int.emod_lt_of_pos x hy
    have h3 := Int.tmod_eq_emod (a := x) (b := y)
    by_cases d : y ∣ x
    · rw [if_pos (Or.inr d)] at h3
      have h4 : x % y = 0 := Int.emod_eq_zero_of_dvd d
      rw [if_neg (by omega)]
      omega
    · rw [if_neg (by intro h; rcases h with h | h; exact z h; exact d h)] at h3
      have h4 : ¬ x % y = 0 := fun h => d (Int.dvd_of_emod_eq_zero h)
      have h5 : ((y.natAbs : Nat) : Int) = y := by omega
      have h6 : x.tmod y < 0 := by omega
      rw [if_pos (by omega)]
      omega
section FM
variable {E : aEnv} {c : Nat} {ah : aHp}
theorem c_floorMod {x y : Int64} (hy : 0 < y.toInt) : EV E c 290 [.long x, .long y] ah (some (.long (iL (x.toInt % y.toInt)))) ah := by
  refine e290 ?_
  have y0 : ¬ y = 0 := fun z => by rw [z] at hy; exact absurd hy (by decide)
  have e1 : (x - x / y * y) = iL (x.toInt.tmod y.toInt) := by rw [← i64_rem hy, ← iL_of]
  have e2 := tm_em (x := x.toInt) hy
  have r1 := Int.tmod_lt_of_pos x.toInt hy
  have r2 := Int.lt_tmod_of_pos x.toInt hy
  have r3 := i64_rg y
  have e3 : (iL (x.toInt.tmod y.toInt) = 0) = (x.toInt.tmod y.toInt = 0) := by
    rw [iL_0, iL_eq (by omega) (by omega) (by omega) (by omega)]
  have e4 : (0 ≤ x ^^^ y) = ¬ x.toInt < 0 := by
    rw [i64_le, ← xor_neg hy]
    apply propext
    show (0 : Int) ≤ _ ↔ _
    omega
  have e5 : iL (x.toInt.tmod y.toInt) + y = iL (x.toInt.tmod y.toInt + y.toInt) := by
    rw [← iL_add, ← iL_of]
  simp (disch := first | assumption | omega | decide | (simp only [List.length_cons, List.length_nil, Nat.reduceAdd, Nat.reduceLT]; done) | fail) only [r290_0, r290_1, r290_3, r290_5, r290_6, r290_7, r290_8, r290_9, r290_10, r290_13, r290_15, r290_16, r290_17, r290_20, r290_22, r290_23, r290_24, r290_25, r290_27, r290_2, e1, oGF_is, WPo_some, List.getElem?_cons_succ, List.getElem?_cons_zero, kil_n, kil_i, kil_a, kil_u, kil_l, Option.toList_some, Option.toList_none, List.cons_append, List.nil_append, List.set_cons_succ, List.set_cons_zero, addm1, Nat.reduceAdd, List.length_cons, List.length_nil, Nat.reduceLT, not_true_eq_false, not_false_eq_true, if_true, if_false, or_self, and_self, true_and, and_true, or_true, true_or, false_or, or_false, false_and, and_false]
  simp only [lg_cmp_ge, lg_cmp_eq, e3, e4, e5]
  rw [e2]
  by_cases z1 : x.toInt < 0
  · by_cases z2 : x.toInt.tmod y.toInt = 0
    · simp only [z1, z2, not_true_eq_false, not_false_eq_true, if_true, if_false, or_self, and_self, true_and, and_true, or_true, true_or, false_or, or_false, false_and, and_false]
    · simp only [z1, z2, not_true_eq_false, not_false_eq_true, if_true, if_false, or_self, and_self, true_and, and_true, or_true, true_or, false_or, or_false, false_and, and_false]
  · simp only [z1, not_true_eq_false, not_false_eq_true, if_true, if_false, or_self, and_self, true_and, and_true, or_true, true_or, false_or, or_false, false_and, and_false]
end FM
theorem wt_pos {r : Nat → Nat} {n : Nat} (hr : ∀ w, w < n → 2 ≤ r w ∧ r w ≤ 12) : ∀ w, w ≤ n → 1 ≤ wt r w ∧ wt r w ≤ 12 ^ w
  | 0, _ => ⟨Nat.le_refl _, Nat.le_refl _⟩
  | w + 1, hw => by
    have h1 := wt_pos hr w (by omega)
    have h2 := hr w (by omega)
    rw [wt, Nat.pow_succ]
    exact ⟨Nat.mul_pos (by omega) (by omega), Nat.mul_le_mul h1.2 h2.2⟩
theorem wt_63 {r : Nat → Nat} {n : Nat} (hn : n ≤ 12) (hr : ∀ w, w < n → 2 ≤ r w ∧ r w ≤ 12) {w : Nat} (hw : w ≤ n) : 1 ≤ wt r w ∧ wt r w < 9000000000000 := by
  have h1 := wt_pos hr w hw
  have h2 : 12 ^ w ≤ 12 ^ 12 := Nat.pow_le_pow_right (by decide) (by omega)
  have h3 : (12 : Nat) ^ 12 < 9000000000000 := by decide
  omega
theorem wt_dvd {r : Nat → Nat} {w : Nat} : ∀ k, ∃ q, wt r (w + 1 + k) = wt r w * (r w * q)
  | 0 => ⟨1, by rw [Nat.add_zero, wt, Nat.mul_one]⟩
  | k + 1 => by
    obtain ⟨q, hq⟩ := wt_dvd (r := r) (w := w) k
    exact ⟨q * r (w + 1 + k), by rw [← Nat.add_assoc, wt, hq, Nat.mul_assoc, Nat.mul_assoc]⟩
noncomputable def dgt (V : Int) (r : Nat → Nat) (w : Nat) : Nat := ((V / (wt r w : Int)) % (r w : Int)).toNat
theorem dgt_lt {V : Int} {r : Nat → Nat} {w : Nat} (h : 1 ≤ r w) : dgt V r w < r w := by
  unfold dgt
  have h1 := Int.emod_lt_of_pos (V / (wt r w : Int)) (show (0 : Int) < (r w : Int) by omega)
  have h2 := Int.emod_nonneg (V / (wt r w : Int)) (show (r w : Int) ≠ 0 by omega)
  omega
theorem em_div {a p c q : Int} (hp : 0 < p) (hq : q ∣ c) : (a % (p * c)) / p % q = a / p % q := by
  have h1 : a = p * c * (a / (p * c)) + a % (p * c) := (Int.mul_ediv_add_emod a (p * c)).symm
  have h2 : a / p = c * (a / (p * c)) + (a % (p * c)) / p := by
    conv => lhs; rw [h1]
    rw [Int.mul_assoc, Int.add_comm, Int.add_mul_ediv_left _ _ (by omega), Int.add_comm]
  obtain ⟨d, hd⟩ := hq
  rw [h2]
  conv => rhs; rw [hd, Int.mul_assoc, Int.add_comm, Int.add_mul_emod_self_left]
  rw [hd]
theorem dgt_mod {V : Int} {r : Nat → Nat} {n w : Nat} (hw : w < n) (hr : ∀ w, w < n → 2 ≤ r w ∧ r w ≤ 12) : (V % (wt r n : Int)).toNat / wt r w % r w = dgt V r w := by
  obtain ⟨q, hq⟩ := wt_dvd (r := r) (w := w) (n - w - 1)
  rw [show w + 1 + (n - w - 1) = n by omega] at hq
  have p1 := (wt_pos hr w (by omega)).1
  have p2 := (wt_pos hr n (by omega)).1
  have h0 := Int.emod_nonneg V (show ((wt r n : Nat) : Int) ≠ 0 by omega)
  unfold dgt
  rw [← em_div (c := (r w : Int) * (q : Int)) (show (0 : Int) < (wt r w : Int) by omega) ⟨_, rfl⟩, ← Int.natCast_mul, ← Int.natCast_mul, ← hq]
  generalize hu : V % (wt r n : Int) = u at h0 ⊢
  obtain ⟨k, rfl⟩ := Int.eq_ofNat_of_zero_le h0
  rw [Int.toNat_natCast, ← Int.natCast_ediv, ← Int.natCast_emod, Int.toNat_natCast]
theorem lN_iL (n : Nat) : lN n = iL n := (Int64.ofInt_eq_ofNat).symm
theorem lN_div {a b : Nat} (ha : a < 2 ^ 63) (hb : b < 2 ^ 63) (h0 : 1 ≤ b) : lN a / lN b = lN (a / b) := by
  have h1 : a / b ≤ a := Nat.div_le_self a b
  apply Int64.toInt_inj.mp
  rw [i64_div (by rw [lN_toInt63 hb]; omega), lN_toInt63 ha, lN_toInt63 hb, lN_toInt63 (by omega), ← Int.ofNat_tdiv]
theorem lN_rem {a b : Nat} (ha : a < 2 ^ 63) (hb : b < 2 ^ 63) (h0 : 1 ≤ b) : lN a - lN a / lN b * lN b = lN (a % b) := by
  have h1 : a / b * b ≤ a := Nat.div_mul_le_self a b
  rw [lN_div ha hb h0, lN_mul, lN_sub h1]
  congr 1
  have := Nat.div_add_mod a b
  rw [Nat.mul_comm] at this
  omega
section FO
variable {E : aEnv} {c b ax wh : Nat} {ah : aHp} {A : Nat → Nat} {S : Nat → aE} {al : Int64} {ms tu : Int32} {ei : Nat → Nat → Int32} {el : Nat → Nat → Int64}
theorem c_figureOf (h : XB E ah A b) (hw : wh ≤ 12) {w U : Nat} (h2 : w < wh) (hU : U < 2 ^ 63) {r : Nat → Nat} (hr : ∀ w, w < wh → ei 6 w = nI (r w) ∧ 2 ≤ r w ∧ r w ≤ 12) (hl : ∀ w, w < wh → el 7 w = lN (wt r w)) : EV E (c + 1) 41 [.ref (A b), .long (lN U), .int (nI w)] (oh E ah A (eSt A S b ax wh al ms tu ei el)) (some (.int (nI (U / wt r w % r w)))) (oh E ah A (eSt A S b ax wh al ms tu ei el)) := by
  refine e41 ?_
  have p1 := wt_63 hw (fun w z => (hr w z).2) (show w ≤ wh by omega)
  obtain ⟨r1, r2, r3⟩ := hr w h2
  have y1 : ¬ lN (wt r w) = 0 := fun z => by
    have := congrArg Int64.toInt z
    rw [lN_toInt63 (by omega)] at this
    have e : (0 : Int64).toInt = 0 := rfl
    omega
  have y2 : ¬ lN (r w) = 0 := fun z => by
    have := congrArg Int64.toInt z
    rw [lN_toInt63 (by omega)] at this
    have e : (0 : Int64).toInt = 0 := rfl
    omega
  have d1 : U / wt r w ≤ U := Nat.div_le_self _ _
  have d2 := lN_rem (a := U / wt r w) (b := r w) (by omega) (by omega) (by omega)
  rw [lN_div (by omega) (by omega) (by omega)] at d2
  simp (disch := first | assumption | omega | decide | (simp only [List.length_cons, List.length_nil, Nat.reduceAdd, Nat.reduceLT]; done) | fail) only [r41_0, r41_1, r41_5, r41_8, r41_9, r41_10, r41_13, r41_14, r41_16, r41_17, r41_20, r41_21, r41_22, r41_24, r41_25, r41_28, r41_29, r41_15, r41_23, ge_0 h, oGF_is, WPo_some, List.getElem?_cons_succ, List.getElem?_cons_zero, kil_n, kil_i, kil_a, kil_u, kil_l, Option.toList_some, Option.toList_none, List.cons_append, List.nil_append, List.set_cons_succ, List.set_cons_zero, addm1, Nat.reduceAdd, List.length_cons, List.length_nil, Nat.reduceLT, q41_2 (c_hasWheel h hw) h.ci, b2i_eq0, nI_clamp, nI_toInt, nI_leL, nI_Lle, nI_ltL, nI_Llt, nI_eqL, nI_Leq, nI_leE, nI_ltE, nI_eqE, nI_eqM, nI_add, nI_addL, nI_Ladd, nI_mulL, nI_Lmul, pk_mul, pk_sub, nI_subL, nI_Lsub, i2l_nI, Int.toNat_natCast, Nat.not_lt_zero, Nat.zero_le, ifT, ifF, not_true_eq_false, not_false_eq_true, if_true, if_false, or_self, and_self, true_and, and_true, or_true, true_or, false_or, or_false, false_and, and_false, gI, gL, ge_6 h, ge_7 h, r1, hl w h2, nI_l, lN_div, d2, lN_i, show (0 : Int) ≤ (w : Int) ∧ (w : Int) < (wh : Int) by omega]
end FO

/-! ints within as numbers: equations whose side goals are arithmetic -/
theorem ifT {α : Sort _} {p : Prop} [Decidable p] {a b : α} (h : p) : (if p then a else b) = a := if_pos h
theorem ifF {α : Sort _} {p : Prop} [Decidable p] {a b : α} (h : ¬ p) : (if p then a else b) = b := if_neg h

theorem nI_leL {a n : Nat} (ha : a < 2 ^ 31) (hn : (OfNat.ofNat n : Nat) < 2 ^ 31) : (nI a ≤ (no_index (OfNat.ofNat n : Int32))) = (a ≤ OfNat.ofNat n) := propext (nI_leI ha hn)
theorem nI_Lle {a n : Nat} (ha : a < 2 ^ 31) (hn : (OfNat.ofNat n : Nat) < 2 ^ 31) : ((no_index (OfNat.ofNat n : Int32)) ≤ nI a) = (OfNat.ofNat n ≤ a) := propext (nI_leI hn ha)
theorem nI_ltL {a n : Nat} (ha : a < 2 ^ 31) (hn : (OfNat.ofNat n : Nat) < 2 ^ 31) : (nI a < (no_index (OfNat.ofNat n : Int32))) = (a < OfNat.ofNat n) := propext (nI_ltI ha hn)
theorem nI_Llt {a n : Nat} (ha : a < 2 ^ 31) (hn : (OfNat.ofNat n : Nat) < 2 ^ 31) : ((no_index (OfNat.ofNat n : Int32)) < nI a) = (OfNat.ofNat n < a) := propext (nI_ltI hn ha)
theorem nI_eqL {a n : Nat} (ha : a < 2 ^ 31) (hn : (OfNat.ofNat n : Nat) < 2 ^ 31) : (nI a = (no_index (OfNat.ofNat n : Int32))) = (a = OfNat.ofNat n) := propext (nI_eq ha hn)
theorem nI_Leq {a n : Nat} (ha : a < 2 ^ 31) (hn : (OfNat.ofNat n : Nat) < 2 ^ 31) : ((no_index (OfNat.ofNat n : Int32)) = nI a) = (OfNat.ofNat n = a) := propext (nI_eq hn ha)
theorem nI_leE {a b : Nat} (ha : a < 2 ^ 31) (hb : b < 2 ^ 31) : (nI a ≤ nI b) = (a ≤ b) := propext (nI_leI ha hb)
theorem nI_ltE {a b : Nat} (ha : a < 2 ^ 31) (hb : b < 2 ^ 31) : (nI a < nI b) = (a < b) := propext (nI_ltI ha hb)
theorem nI_eqE {a b : Nat} (ha : a < 2 ^ 31) (hb : b < 2 ^ 31) : (nI a = nI b) = (a = b) := propext (nI_eq ha hb)
theorem nI_eqM {a : Nat} (ha : a < 2 ^ 31) : (nI a = -1) = False := by
  apply eq_false
  intro h
  have h1 := nI_toInt ha
  rw [h] at h1
  revert h1
  simp
theorem nI_addL {a n : Nat} : nI a + (no_index (OfNat.ofNat n : Int32)) = nI (a + OfNat.ofNat n) := nI_add a n
theorem nI_Ladd {a n : Nat} : (no_index (OfNat.ofNat n : Int32)) + nI a = nI (OfNat.ofNat n + a) := nI_add n a
theorem nI_mulL {a n : Nat} : nI a * (no_index (OfNat.ofNat n : Int32)) = nI (a * OfNat.ofNat n) := pk_mul a n
theorem nI_Lmul {a n : Nat} : (no_index (OfNat.ofNat n : Int32)) * nI a = nI (OfNat.ofNat n * a) := pk_mul n a
theorem nI_subL {a n : Nat} (h : (OfNat.ofNat n : Nat) ≤ a) : nI a - (no_index (OfNat.ofNat n : Int32)) = nI (a - OfNat.ofNat n) := pk_sub h
theorem nI_Lsub {a n : Nat} (h : a ≤ (OfNat.ofNat n : Nat)) : (no_index (OfNat.ofNat n : Int32)) - nI a = nI (OfNat.ofNat n - a) := pk_sub h
theorem nI_inE {a n : Nat} (ha : a < 2 ^ 31) (h : a < n) : (nI a < 0 ∨ n ≤ (nI a).toNatClampNeg) = False := by
  apply eq_false
  rw [nI_clamp ha]
  rintro (z | z)
  · exact nI_pos ha z
  · omega
theorem i2l_nI {n : Nat} (h : n < 2 ^ 31) : (nI n).toInt64.toInt = (n : Int) := by rw [i2l_toInt, nI_toInt h]
theorem su_su {S : Nat → aE} {k : Nat} {e e' : aE} : su (su S k e) k e' = su S k e' := by
  funext j
  unfold su
  split <;> rfl
theorem su_at {S : Nat → aE} {k : Nat} {e : aE} : su S k e k = e := if_pos rfl
theorem su_ne {S : Nat → aE} {k j : Nat} {e : aE} (h : ¬ j = k) : su S k e j = S j := if_neg h
theorem vu_at {v : Nat → Value} {k : Nat} {x : Value} : vu v k x k = x := if_pos rfl
theorem vu_ne {v : Nat → Value} {k j : Nat} {x : Value} (h : ¬ j = k) : vu v k x j = v j := if_neg h
theorem iu_at {v : Nat → Nat → Int32} {k : Nat} {x : Nat → Int32} : iu v k x k = x := if_pos rfl
theorem iu_ne {v : Nat → Nat → Int32} {k j : Nat} {x : Nat → Int32} (h : ¬ j = k) : iu v k x j = v j := if_neg h
theorem lu_at {v : Nat → Nat → Int64} {k : Nat} {x : Nat → Int64} : lu v k x k = x := if_pos rfl
theorem lu_ne {v : Nat → Nat → Int64} {k j : Nat} {x : Nat → Int64} (h : ¬ j = k) : lu v k x j = v j := if_neg h
theorem iu_iu {v : Nat → Nat → Int32} {k : Nat} {x y : Nat → Int32} : iu (iu v k x) k y = iu v k y := by
  funext j
  unfold iu
  split <;> rfl
theorem lu_lu {v : Nat → Nat → Int64} {k : Nat} {x y : Nat → Int64} : lu (lu v k x) k y = lu v k y := by
  funext j
  unfold lu
  split <;> rfl
theorem iu_self {v : Nat → Nat → Int32} {k : Nat} : iu v k (v k) = v := by
  funext j
  unfold iu
  split
  · next h => rw [h]
  · rfl
theorem lu_self {v : Nat → Nat → Int64} {k : Nat} : lu v k (v k) = v := by
  funext j
  unfold lu
  split
  · next h => rw [h]
  · rfl
theorem i2l_add {x y : Int32} : (x.toInt64 + y.toInt64).toInt = x.toInt + y.toInt := by
  have h1 := i32_rg x
  have h2 := i32_rg y
  rw [i64_add] <;> simp only [i2l_toInt] <;> omega
theorem i2l_sub {x y : Int32} : (x.toInt64 - y.toInt64).toInt = x.toInt - y.toInt := by
  have h1 := i32_rg x
  have h2 := i32_rg y
  rw [i64_sub] <;> simp only [i2l_toInt] <;> omega
/-- longs by their numbers -/
noncomputable def iL (z : Int) : Int64 := Int64.ofInt z
theorem iL_toInt {z : Int} (h1 : -9223372036854775808 ≤ z) (h2 : z < 9223372036854775808) : (iL z).toInt = z := Int64.toInt_ofInt_of_le h1 h2
theorem iL_of (x : Int64) : x = iL x.toInt := (Int64.ofInt_toInt x).symm
theorem iL_add (a b : Int) : iL a + iL b = iL (a + b) := (Int64.ofInt_add a b).symm
theorem iL_sub (a b : Int) : iL a - iL b = iL (a - b) := (Int64.ofInt_sub a b).symm
theorem iL_mul (a b : Int) : iL a * iL b = iL (a * b) := (Int64.ofInt_mul a b).symm
theorem iL_neg (a : Int) : - iL a = iL (-a) := (Int64.ofInt_neg a).symm
theorem iL_nI {n : Nat} (h : n < 2 ^ 31) : (nI n).toInt64 = iL n := by
  apply Int64.toInt_inj.mp
  rw [i2l_nI h, iL_toInt] <;> omega
theorem iL_le {a b : Int} (h1 : -9223372036854775808 ≤ a) (h2 : a < 9223372036854775808) (h3 : -9223372036854775808 ≤ b) (h4 : b < 9223372036854775808) : (iL a ≤ iL b) = (a ≤ b) := by rw [i64_le, iL_toInt h1 h2, iL_toInt h3 h4]
theorem iL_lt {a b : Int} (h1 : -9223372036854775808 ≤ a) (h2 : a < 9223372036854775808) (h3 : -9223372036854775808 ≤ b) (h4 : b < 9223372036854775808) : (iL a < iL b) = (a < b) := by rw [i64_lt, iL_toInt h1 h2, iL_toInt h3 h4]
theorem iL_eq {a b : Int} (h1 : -9223372036854775808 ≤ a) (h2 : a < 9223372036854775808) (h3 : -9223372036854775808 ≤ b) (h4 : b < 9223372036854775808) : (iL a = iL b) = (a = b) := by
  apply propext
  constructor
  · intro h
    rw [← iL_toInt h1 h2, h, iL_toInt h3 h4]
  · rintro rfl
    rfl
theorem iL_0 : (0 : Int64) = iL 0 := rfl
theorem iL_leL {a : Int} {n : Nat} (h1 : -9223372036854775808 ≤ a) (h2 : a < 9223372036854775808) (hn : (OfNat.ofNat n : Nat) < 2 ^ 63) : (iL a ≤ (no_index (OfNat.ofNat n : Int64))) = (a ≤ OfNat.ofNat n) := by
  have := iL_le h1 h2 (b := OfNat.ofNat n) (by show -9223372036854775808 ≤ (n : Int); omega) (by have : n < 2 ^ 63 := hn; show (n : Int) < 9223372036854775808; omega)
  rw [← this]
  rfl

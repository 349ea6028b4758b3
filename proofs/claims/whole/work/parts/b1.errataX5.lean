/-! Errata of the class: all options of a value -/
noncomputable def jI (z : Int) : Int32 := Int32.ofInt z
theorem jI_toInt {z : Int} (h1 : -2147483648 ≤ z) (h2 : z < 2147483648) : (jI z).toInt = z := Int32.toInt_ofInt_of_le h1 h2
theorem jI_add (a b : Int) : jI a + jI b = jI (a + b) := (Int32.ofInt_add a b).symm
theorem jI_sub (a b : Int) : jI a - jI b = jI (a - b) := (Int32.ofInt_sub a b).symm
theorem jI_mul (a b : Int) : jI a * jI b = jI (a * b) := (Int32.ofInt_mul a b).symm
theorem jI_n (n : Nat) : nI n = jI n := (Int32.ofInt_eq_ofNat).symm
theorem srS_iff {a : Nat → Int} {c : Nat} {M M' : Int → Prop} (h : srS a c M) (e : ∀ x, M x ↔ M' x) : srS a c M' := ⟨h.1, fun x => (e x).symm.trans (h.2 x)⟩
noncomputable def opD (v p d : Nat) : Int := (v : Int) + ((d : Int) - fgN v p) * 10 ^ p
noncomputable def opW (v p : Nat) : Int := (v : Int) + ((fgN v (p + 1) : Int) - fgN v p) * 10 ^ p + ((fgN v p : Int) - fgN v (p + 1)) * 10 ^ (p + 1)
noncomputable def aD (v p d : Nat) (x : Int) : Prop := ∃ p' d', ((p' < p ∧ d' < 10) ∨ (p' = p ∧ d' < d)) ∧ d' ≠ fgN v p' ∧ x = opD v p' d'
noncomputable def aW (v p : Nat) (x : Int) : Prop := ∃ p', p' < p ∧ fgN v (p' + 1) ≠ fgN v p' ∧ x = opW v p'
theorem fgN_lt {v p : Nat} : fgN v p < 10 := Nat.mod_lt _ (by decide)
theorem aD_0 {v : Nat} {x : Int} : ¬ aD v 0 0 x := by
  rintro ⟨p', d', h, -⟩
  omega
theorem aD_up {v p : Nat} {x : Int} : aD v p 10 x ↔ aD v (p + 1) 0 x := by
  constructor
  · rintro ⟨p', d', h, h2⟩
    exact ⟨p', d', by omega, h2⟩
  · rintro ⟨p', d', h, h2⟩
    exact ⟨p', d', by omega, h2⟩
theorem aD_st {v p d : Nat} {x : Int} (h : d ≠ fgN v p) : (aD v p d x ∨ x = opD v p d) ↔ aD v p (d + 1) x := by
  constructor
  · rintro (⟨p', d', h1, h2⟩ | h1)
    · exact ⟨p', d', by omega, h2⟩
    · exact ⟨p, d, by omega, h, h1⟩
  · rintro ⟨p', d', h1, h2, h3⟩
    by_cases z : p' = p ∧ d' = d
    · obtain ⟨rfl, rfl⟩ := z
      exact Or.inr h3
    · exact Or.inl ⟨p', d', by omega, h2, h3⟩
theorem aD_no {v p d : Nat} {x : Int} (h : d = fgN v p) : aD v p d x ↔ aD v p (d + 1) x := by
  constructor
  · rintro ⟨p', d', h1, h2⟩
    exact ⟨p', d', by omega, h2⟩
  · rintro ⟨p', d', h1, h2, h3⟩
    by_cases z : p' = p ∧ d' = d
    · obtain ⟨rfl, rfl⟩ := z
      exact absurd h h2
    · exact ⟨p', d', by omega, h2, h3⟩
theorem op_all {v : Nat} {x : Int} : (aD v 8 0 x ∨ aW v 7 x) ↔ opN v x := by
  constructor
  · rintro (⟨p', d', h1, h2, h3⟩ | ⟨p', h1, h2, h3⟩)
    · exact Or.inl ⟨p', d', by omega, by omega, h2, h3⟩
    · exact Or.inr ⟨p', h1, h2, h3⟩
  · rintro (⟨p', d', h1, h0, h2, h3⟩ | ⟨p', h1, h2, h3⟩)
    · exact Or.inl ⟨p', d', Or.inl ⟨h1, h0⟩, h2, h3⟩
    · exact Or.inr ⟨p', h1, h2, h3⟩
theorem opD_32 {v p d : Nat} (hv : v ≤ 99999999) (hp : p < 8) (hd : d < 10) : (nI v + (nI d - nI (fgN v p)) * nI (10 ^ p) : Int32).toInt = opD v p d := by
  have r := op_rg1 hv hp hd
  have e : (nI v + (nI d - nI (fgN v p)) * nI (10 ^ p) : Int32) = jI (opD v p d) := by
    rw [jI_n, jI_n, jI_n, jI_n, jI_sub, jI_mul, jI_add]
    unfold opD
    congr 1
    try simp
  rw [e]
  unfold opD
  exact jI_toInt (by omega) (by omega)
theorem opW_32 {v p : Nat} (hv : v ≤ 99999999) (hp : p < 7) : (nI v + (nI (fgN v (p + 1)) - nI (fgN v p)) * nI (10 ^ p) - (nI (fgN v (p + 1)) - nI (fgN v p)) * nI (10 ^ (p + 1)) : Int32).toInt = opW v p := by
  have r := op_rg2 hv hp
  have e : (nI v + (nI (fgN v (p + 1)) - nI (fgN v p)) * nI (10 ^ p) - (nI (fgN v (p + 1)) - nI (fgN v p)) * nI (10 ^ (p + 1)) : Int32) = jI (opW v p) := by
    rw [jI_n, jI_n, jI_n, jI_n, jI_n, jI_sub, jI_mul, jI_mul, jI_add, jI_sub]
    unfold opW
    congr 1
    rw [show ((fgN v p : Int) - fgN v (p + 1)) = -((fgN v (p + 1) : Int) - fgN v p) by omega, Int.neg_mul]
    simp
    try omega
  rw [e]
  unfold opW
  exact jI_toInt (by omega) (by omega)
section EX5
variable {E : aEnv} {c : Nat} {ah : aHp} {A : Nat → Nat} {S : Nat → aE} {fn mn od bd : Int32} {lo hi : Int64} {vl wi sh : Nat → Int32} {dl : Nat → Int64} {V : Nat → Nat}
/-- only the row of i, and its count, have changed -/
noncomputable def frO (i : Nat) (oc oc' : Nat → Int32) (OP OP' : Nat → Nat → Int32) : Prop := ∀ q, q ≠ i → oc' q = oc q ∧ OP' q = OP q
theorem frO_tr {i : Nat} {a b d : Nat → Int32} {x y z : Nat → Nat → Int32} (h : frO i a b x y) (g : frO i b d y z) : frO i a d x z := fun q hq => ⟨by rw [(g q hq).1, (h q hq).1], by rw [(g q hq).2, (h q hq).2]⟩
theorem l_lo1 (hO : XO E ah A) (hE : ErE E) {i p : Nat} (hi' : i < 20) (hp : p < 8) (hv : vl i = nI (V i)) (hv2 : V i ≤ 99999999) {Q : Option Value → aHp → Prop} : ∀ z d oc OP cc, d + z = 10 → oc i = nI cc → cc + (if fgN (V i) p < d then 1 else 0) ≤ 9 * p + d → srS (fun q => (OP i q).toInt) cc (aD (V i) p d) → (∀ oc' OP' cc', oc' i = nI cc' → cc' ≤ 9 * (p + 1) → srS (fun q => (OP' i q).toInt) cc' (aD (V i) (p + 1) 0) → frO i oc oc' OP OP' → WP E (c + 1) 61 66 [some (.ref (A 19)), some (.int (nI i)), some (.int (nI p)), some (.int (nI (fgN (V i) p))), some (.int (nI 10))] [] (oh E ah A (eS A S fn mn od bd lo hi vl oc' wi sh dl OP')) Q) → WP E (c + 1) 61 25 [some (.ref (A 19)), some (.int (nI i)), some (.int (nI p)), some (.int (nI (fgN (V i) p))), some (.int (nI d))] [] (oh E ah A (eS A S fn mn od bd lo hi vl oc wi sh dl OP)) Q
  | 0, d, oc, OP, cc, hz, h1, h2, h3, K => by
    have f10 := fgN_lt (v := V i) (p := p)
    rw [show d = 10 by omega] at h2 h3 ⊢
    rw [if_pos f10] at h2
    have K := K oc OP cc h1 (by omega) (srS_iff h3 (fun x => aD_up)) (fun q hq => ⟨rfl, rfl⟩)
    rw [r61_25]
    simp (disch := first | assumption | omega | decide | (simp only [List.length_cons, List.length_nil, Nat.reduceAdd, Nat.reduceLT]; done) | fail) only [r61_27, r61_29, oGF_is, WPo_some, List.getElem?_cons_succ, List.getElem?_cons_zero, kil_n, kil_i, kil_a, kil_u, kil_l, Option.toList_some, Option.toList_none, List.cons_append, List.nil_append, List.set_cons_succ, List.set_cons_zero, addm1, Nat.reduceAdd, List.length_cons, List.length_nil, Nat.reduceLT, nI_clamp, nI_toInt, nI_leL, nI_Lle, nI_ltL, nI_Llt, nI_eqL, nI_Leq, nI_leE, nI_ltE, nI_eqE, nI_eqM, nI_add, nI_addL, nI_Ladd, nI_mulL, nI_Lmul, pk_mul, pk_sub, nI_subL, nI_Lsub, i2l_nI, Int.toNat_natCast, Nat.not_lt_zero, Nat.zero_le, ifT, ifF, not_true_eq_false, not_false_eq_true, if_true, if_false, or_self, and_self, true_and, and_true, or_true, true_or, false_or, or_false, false_and, and_false]
    exact K
  | z + 1, d, oc, OP, cc, hz, h1, h2, h3, K => by
    have f10 := fgN_lt (v := V i) (p := p)
    rw [r61_25]
    by_cases y : d = fgN (V i) p
    · have ih := l_lo1 hO hE hi' hp hv hv2 (Q := Q) z (d + 1) oc OP cc (by omega) h1 (by rw [if_pos (by omega)]; rw [if_neg (by omega)] at h2; omega) (srS_iff h3 (fun x => aD_no y)) K
      simp (disch := first | assumption | omega | decide | (simp only [List.length_cons, List.length_nil, Nat.reduceAdd, Nat.reduceLT]; done) | fail) only [r61_27, r61_29, r61_32, r61_34, r61_35, r61_60, r61_63, eq_true y, oGF_is, WPo_some, List.getElem?_cons_succ, List.getElem?_cons_zero, kil_n, kil_i, kil_a, kil_u, kil_l, Option.toList_some, Option.toList_none, List.cons_append, List.nil_append, List.set_cons_succ, List.set_cons_zero, addm1, Nat.reduceAdd, List.length_cons, List.length_nil, Nat.reduceLT, nI_clamp, nI_toInt, nI_leL, nI_Lle, nI_ltL, nI_Llt, nI_eqL, nI_Leq, nI_leE, nI_ltE, nI_eqE, nI_eqM, nI_add, nI_addL, nI_Ladd, nI_mulL, nI_Lmul, pk_mul, pk_sub, nI_subL, nI_Lsub, i2l_nI, Int.toNat_natCast, Nat.not_lt_zero, Nat.zero_le, ifT, ifF, not_true_eq_false, not_false_eq_true, if_true, if_false, or_self, and_self, true_and, and_true, or_true, true_or, false_or, or_false, false_and, and_false]
      exact ih
    · obtain ⟨a0, a1, f0, f1, e0, e1, l0, l1, t0, t1, F0, F1⟩ := hE
      have lo1 : ∀ x : aHp, hg E x a1 = none := fun x => hg_low l1
      have f := F1 p hp
      have c79 : cc < 79 := by split at h2 <;> omega
      obtain ⟨g, k, hk⟩ := c_addOption (E := E) (c := c) (S := S) (fn := fn) (mn := mn) (od := od) (bd := bd) (lo := lo) (hi := hi) (vl := vl) (wi := wi) (sh := sh) (dl := dl) hO hi' h1 c79 (x := nI (V i) + (nI d - nI (fgN (V i) p)) * nI (10 ^ p)) h3
      rw [opD_32 hv2 hp (by omega)] at hk
      have ih := l_lo1 hO ⟨a0, a1, f0, f1, e0, e1, l0, l1, t0, t1, F0, F1⟩ hi' hp hv hv2 (Q := Q) z (d + 1) (upd oc i (nI (cc + 1))) (fnu OP i g) (cc + 1) (by omega) upd_at (by split at h2 <;> split <;> omega) (by rw [fnu_at]; exact srS_iff hk (fun x => aD_st y)) (fun oc' OP' cc' q1 q2 q3 q4 => K oc' OP' cc' q1 q2 q3 (frO_tr (fun q hq => ⟨upd_ne hq, fnu_ne hq⟩) q4))
      have y' : ¬ nI d = nI (fgN (V i) p) := by rw [nI_eqE (by omega) (by omega)]; exact y
      simp (disch := first | assumption | omega | decide | (simp only [List.length_cons, List.length_nil, Nat.reduceAdd, Nat.reduceLT]; done) | fail) only [r61_27, r61_29, r61_32, r61_34, r61_35, r61_38, r61_39, r61_40, r61_41, r61_44, r61_45, r61_46, r61_48, r61_49, r61_50, r61_53, r61_54, r61_55, r61_56, r61_60, r61_63, gC, e1, hr19 hO, hr20 hO, gI, lo1, t1, f, hv, y', y, q61_57 k (er_ci hO), nI_clamp, nI_leL, nI_Lle, nI_ltL, nI_Llt, nI_leE, nI_ltE, nI_eqE, nI_addL, ifT, ifF, Nat.not_lt_zero, Nat.zero_le, oGF_is, WPo_some, List.getElem?_cons_succ, List.getElem?_cons_zero, kil_n, kil_i, kil_a, kil_u, kil_l, Option.toList_some, Option.toList_none, List.cons_append, List.nil_append, List.set_cons_succ, List.set_cons_zero, addm1, Nat.reduceAdd, List.length_cons, List.length_nil, Nat.reduceLT, not_true_eq_false, not_false_eq_true, if_true, if_false, or_self, and_self, true_and, and_true, or_true, true_or, false_or, or_false, false_and, and_false]
      exact ih
end EX5

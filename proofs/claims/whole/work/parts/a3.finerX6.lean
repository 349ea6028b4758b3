/-! finer: how many figures the class finds needed -/
noncomputable def fnN (n : Nat) (u : Int64) (r : Nat) (D : Nat → Int64) : Nat → Nat → Int32
  | 0, _ => -1
  | z + 1, f => if alR n u (lN (10 ^ f)) r D (rnD D u (lN (10 ^ f))) = 0 then fnN n u r D z (f + 1) else nI f
/-- the rows of differences and of exact starts -/
noncomputable def fV (S : Nat → aE) (X R : Nat → Int64) : Nat → aE := su (su S 9 (.inl (1, 5, .inr (.inl X)))) 10 (.inl (1, 5, .inr (.inl R)))
section FV
variable {E : aEnv} {c : Nat} {ah : aHp} {A : Nat → Nat} {S : Nat → aE} {X R : Nat → Int64}
theorem fV_8 : fV S X R 8 = S 8 := by unfold fV; rw [su_ne (by decide), su_ne (by decide)]
theorem fV_9 : fV S X R 9 = .inl (1, 5, .inr (.inl X)) := by unfold fV; rw [su_ne (by decide), su_at]
theorem fV_10 : fV S X R 10 = .inl (1, 5, .inr (.inl R)) := by unfold fV; rw [su_at]
theorem fV_s9 {X' : Nat → Int64} : su (fV S X R) 9 (.inl (1, 5, .inr (.inl X'))) = fV S X' R := by
  funext j
  unfold fV su
  by_cases z : j = 9
  · subst z; rfl
  · simp only [z, if_false]
theorem fV_s10 {R' : Nat → Int64} : su (fV S X R) 10 (.inl (1, 5, .inr (.inl R'))) = fV S X R' := by unfold fV; rw [su_su]
theorem fV_ne {q : Nat} (h1 : ¬ q = 9) (h2 : ¬ q = 10) : fV S X R q = S q := by unfold fV; rw [su_ne h2, su_ne h1]
theorem fV_of {S : Nat → aE} {X R : Nat → Int64} (h1 : S 9 = .inl (1, 5, .inr (.inl X))) (h2 : S 10 = .inl (1, 5, .inr (.inl R))) : fV S X R = S := by
  funext j
  unfold fV su
  by_cases z : j = 10
  · subst z; exact h2.symm
  · by_cases z1 : j = 9
    · subst z1; exact h1.symm
    · simp only [z, z1, if_false]
/-- the finer table as it stands -/
noncomputable def fnX (A : Nat → Nat) (S : Nat → aE) : Prop := S 8 = .inr (5, [.ref (A 9), .ref (A 10), .ref (A 11), .ref (A 12)]) ∧ (∃ a, S 9 = .inl (1, 5, .inr (.inl a))) ∧ (∃ a, S 10 = .inl (1, 5, .inr (.inl a))) ∧ (∃ a, S 11 = .inl (1, 5, .inr (.inl a))) ∧ ∃ a, S 12 = .inl (1, 5, .inr (.inl a))
theorem XO.ci8 (hO : XO E ah A) (h8 : S 8 = .inr (5, [.ref (A 9), .ref (A 10), .ref (A 11), .ref (A 12)])) : oCI (hg E (oh E ah A S) (A 8)) = 5 := by rw [hx_8 hO, h8]; rfl
variable {sr : Nat → Int32} {mn : Nat → Nat} {tn : Nat → Nat → Int64}
theorem l_fnA (hO : XO E ah A) (h8 : S 8 = .inr (5, [.ref (A 9), .ref (A 10), .ref (A 11), .ref (A 12)])) (ht : trS A S sr mn tn) {j k : Nat} (hj : j < 4) (hk : k ≤ 4) (hm : k + 1 ≤ mn j) {a3 a4 : Int32} {Q : Option Value → aHp → Prop} (K : WP E (c + 2) 84 36 [some (.ref (A 8)), some (.ref (A (73 + 2 * j))), some (.int (nI k)), some (.int a3), some (.int a4), some (.int (nI k)), some (.int (nI (k + 1))), none, none, none, none] [] (oh E ah A (fV S (ovr X 0 (k + 1) (tn j)) R)) Q) : ∀ z i, i + z = k + 1 → WP E (c + 2) 84 10 [some (.ref (A 8)), some (.ref (A (73 + 2 * j))), some (.int (nI k)), some (.int a3), some (.int a4), some (.int (nI k)), some (.int (nI i)), none, none, none, none] [] (oh E ah A (fV S (ovr X 0 i (tn j)) R)) Q
  | 0, i, hz => by
    rw [show i = k + 1 by omega, r84_10]
    simp (disch := first | assumption | omega | decide | (simp only [List.length_cons, List.length_nil, Nat.reduceAdd, Nat.reduceLT]; done) | fail) only [r84_12, r84_14, oGF_is, WPo_some, List.getElem?_cons_succ, List.getElem?_cons_zero, kil_n, kil_i, kil_a, kil_u, kil_l, Option.toList_some, Option.toList_none, List.cons_append, List.nil_append, List.set_cons_succ, List.set_cons_zero, addm1, Nat.reduceAdd, List.length_cons, List.length_nil, Nat.reduceLT, nI_clamp, nI_toInt, nI_leL, nI_Lle, nI_ltL, nI_Llt, nI_eqL, nI_Leq, nI_leE, nI_ltE, nI_eqE, nI_eqM, nI_add, nI_addL, nI_Ladd, nI_mulL, nI_Lmul, pk_mul, pk_sub, nI_subL, nI_Lsub, i2l_nI, Int.toNat_natCast, Nat.not_lt_zero, Nat.zero_le, ifT, ifF, not_true_eq_false, not_false_eq_true, if_true, if_false, or_self, and_self, true_and, and_true, or_true, true_or, false_or, or_false, false_and, and_false]
    exact K
  | z + 1, i, hz => by
    have ih := l_fnA hO h8 ht hj hk hm K z (i + 1) (by omega)
    have hT1 := (ht.fr (S' := fV S (ovr X 0 i (tn j)) R) (fun q hq => fV_ne (by omega) (by omega))).TR hO hj
    have m1 := vupd_ovr (F := X) (i := i) (h := tn j) (x := tn j i) rfl
    rw [r84_10]
    simp (disch := first | assumption | omega | decide | (simp only [List.length_cons, List.length_nil, Nat.reduceAdd, Nat.reduceLT]; done) | fail) only [r84_12, r84_14, r84_17, r84_18, r84_21, r84_23, r84_23n, r84_24, r84_29, r84_30, r84_33, hx_8 hO, hx_9 hO, sx_9 hO, fV_8, fV_9, fV_s9, h8, pL, q84_26 (c_at hT1 (show i < mn j by omega)) hT1.ci, m1, oGF_is, WPo_some, List.getElem?_cons_succ, List.getElem?_cons_zero, kil_n, kil_i, kil_a, kil_u, kil_l, Option.toList_some, Option.toList_none, List.cons_append, List.nil_append, List.set_cons_succ, List.set_cons_zero, addm1, Nat.reduceAdd, List.length_cons, List.length_nil, Nat.reduceLT, nI_clamp, nI_toInt, nI_leL, nI_Lle, nI_ltL, nI_Llt, nI_eqL, nI_Leq, nI_leE, nI_ltE, nI_eqE, nI_eqM, nI_add, nI_addL, nI_Ladd, nI_mulL, nI_Lmul, pk_mul, pk_sub, nI_subL, nI_Lsub, i2l_nI, Int.toNat_natCast, Nat.not_lt_zero, Nat.zero_le, ifT, ifF, not_true_eq_false, not_false_eq_true, if_true, if_false, or_self, and_self, true_and, and_true, or_true, true_or, false_or, or_false, false_and, and_false]
    exact ih
theorem l_fnB {M k : Nat} (hk : k ≤ 4) (hM : M ≤ 20) {a0 a1 a2 : Option Value} {a4 : Int32} {Q : Option Value → aHp → Prop} (K : WP E c 84 77 [a0, a1, a2, some (.int (nI M)), some (.int a4), some (.int (nI k)), some (.long (lN (unN M k))), none, some (.int (nI (k + 1))), none, none] [] ah Q) : ∀ z i, i + z = k → WP E c 84 53 [a0, a1, a2, some (.int (nI M)), some (.int a4), some (.int (nI k)), some (.long (lN (unN M i))), none, some (.int (nI (i + 1))), none, none] [] ah Q
  | 0, i, hz => by
    rw [show i = k by omega, r84_53]
    simp (disch := first | assumption | omega | decide | (simp only [List.length_cons, List.length_nil, Nat.reduceAdd, Nat.reduceLT]; done) | fail) only [r84_55, r84_57, oGF_is, WPo_some, List.getElem?_cons_succ, List.getElem?_cons_zero, kil_n, kil_i, kil_a, kil_u, kil_l, Option.toList_some, Option.toList_none, List.cons_append, List.nil_append, List.set_cons_succ, List.set_cons_zero, addm1, Nat.reduceAdd, List.length_cons, List.length_nil, Nat.reduceLT, nI_clamp, nI_toInt, nI_leL, nI_Lle, nI_ltL, nI_Llt, nI_eqL, nI_Leq, nI_leE, nI_ltE, nI_eqE, nI_eqM, nI_add, nI_addL, nI_Ladd, nI_mulL, nI_Lmul, pk_mul, pk_sub, nI_subL, nI_Lsub, i2l_nI, Int.toNat_natCast, Nat.not_lt_zero, Nat.zero_le, ifT, ifF, not_true_eq_false, not_false_eq_true, if_true, if_false, or_self, and_self, true_and, and_true, or_true, true_or, false_or, or_false, false_and, and_false]
    exact K
  | z + 1, i, hz => by
    have ih := l_fnB hk hM K z (i + 1) (by omega)
    rw [unN] at ih
    rw [r84_53]
    simp (disch := first | assumption | omega | decide | (simp only [List.length_cons, List.length_nil, Nat.reduceAdd, Nat.reduceLT]; done) | fail) only [r84_55, r84_57, r84_60, r84_62, r84_63, r84_64, r84_66, r84_67, r84_68, r84_69, r84_71, r84_74, nI_l, lN_mul, oGF_is, WPo_some, List.getElem?_cons_succ, List.getElem?_cons_zero, kil_n, kil_i, kil_a, kil_u, kil_l, Option.toList_some, Option.toList_none, List.cons_append, List.nil_append, List.set_cons_succ, List.set_cons_zero, addm1, Nat.reduceAdd, List.length_cons, List.length_nil, Nat.reduceLT, nI_clamp, nI_toInt, nI_leL, nI_Lle, nI_ltL, nI_Llt, nI_eqL, nI_Leq, nI_leE, nI_ltE, nI_eqE, nI_eqM, nI_add, nI_addL, nI_Ladd, nI_mulL, nI_Lmul, pk_mul, pk_sub, nI_subL, nI_Lsub, i2l_nI, Int.toNat_natCast, Nat.not_lt_zero, Nat.zero_le, ifT, ifF, not_true_eq_false, not_false_eq_true, if_true, if_false, or_self, and_self, true_and, and_true, or_true, true_or, false_or, or_false, false_and, and_false]
    exact ih
theorem l_fnC (hO : XO E ah A) (h8 : S 8 = .inr (5, [.ref (A 9), .ref (A 10), .ref (A 11), .ref (A 12)])) {k M : Nat} (hk : k ≤ 4) {a1 : Option Value} {a4 : Int32} {u : Int64} {Q : Option Value → aHp → Prop} (K : WP E (c + 2) 84 109 [some (.ref (A 8)), a1, some (.int (nI k)), some (.int (nI M)), some (.int a4), some (.int (nI k)), some (.long u), none, some (.int (nI (k + 1))), none, none] [] (oh E ah A (fV S X (ovr R 0 (k + 1) (fun i => svP X (nI M).toInt64 k (lN i))))) Q) : ∀ z i, i + z = k + 1 → WP E (c + 2) 84 80 [some (.ref (A 8)), a1, some (.int (nI k)), some (.int (nI M)), some (.int a4), some (.int (nI k)), some (.long u), none, some (.int (nI i)), none, none] [] (oh E ah A (fV S X (ovr R 0 i (fun i => svP X (nI M).toInt64 k (lN i))))) Q
  | 0, i, hz => by
    rw [show i = k + 1 by omega, r84_80]
    simp (disch := first | assumption | omega | decide | (simp only [List.length_cons, List.length_nil, Nat.reduceAdd, Nat.reduceLT]; done) | fail) only [r84_82, r84_84, oGF_is, WPo_some, List.getElem?_cons_succ, List.getElem?_cons_zero, kil_n, kil_i, kil_a, kil_u, kil_l, Option.toList_some, Option.toList_none, List.cons_append, List.nil_append, List.set_cons_succ, List.set_cons_zero, addm1, Nat.reduceAdd, List.length_cons, List.length_nil, Nat.reduceLT, nI_clamp, nI_toInt, nI_leL, nI_Lle, nI_ltL, nI_Llt, nI_eqL, nI_Leq, nI_leE, nI_ltE, nI_eqE, nI_eqM, nI_add, nI_addL, nI_Ladd, nI_mulL, nI_Lmul, pk_mul, pk_sub, nI_subL, nI_Lsub, i2l_nI, Int.toNat_natCast, Nat.not_lt_zero, Nat.zero_le, ifT, ifF, not_true_eq_false, not_false_eq_true, if_true, if_false, or_self, and_self, true_and, and_true, or_true, true_or, false_or, or_false, false_and, and_false]
    exact K
  | z + 1, i, hz => by
    have ih := l_fnC hO h8 hk K z (i + 1) (by omega)
    have s1 := c_scaled (E := E) (c := c + 1) hO (S := fV S X (ovr R 0 i (fun i => svP X (nI M).toInt64 k (lN i)))) (by rw [fV_8]; exact h8) (d := X) fV_9 (i := nI i) (m := nI M) hk
    rw [nI_l (show i < 2 ^ 31 by omega)] at s1
    have m1 := vupd_ovr (F := R) (i := i) (h := fun i => svP X (nI M).toInt64 k (lN i)) (x := svP X (nI M).toInt64 k (lN i)) rfl
    rw [r84_80]
    simp (disch := first | assumption | omega | decide | (simp only [List.length_cons, List.length_nil, Nat.reduceAdd, Nat.reduceLT]; done) | fail) only [r84_82, r84_84, r84_87, r84_88, r84_91, r84_93, r84_94, r84_96, r84_98, r84_102, r84_103, r84_106, hx_8 hO, hx_10 hO, sx_10 hO, fV_8, fV_10, fV_s10, h8, pL, q84_99 s1 (hO.ci8 (by rw [fV_8]; exact h8)), m1, oGF_is, WPo_some, List.getElem?_cons_succ, List.getElem?_cons_zero, kil_n, kil_i, kil_a, kil_u, kil_l, Option.toList_some, Option.toList_none, List.cons_append, List.nil_append, List.set_cons_succ, List.set_cons_zero, addm1, Nat.reduceAdd, List.length_cons, List.length_nil, Nat.reduceLT, nI_clamp, nI_toInt, nI_leL, nI_Lle, nI_ltL, nI_Llt, nI_eqL, nI_Leq, nI_leE, nI_ltE, nI_eqE, nI_eqM, nI_add, nI_addL, nI_Ladd, nI_mulL, nI_Lmul, pk_mul, pk_sub, nI_subL, nI_Lsub, i2l_nI, Int.toNat_natCast, Nat.not_lt_zero, Nat.zero_le, ifT, ifF, not_true_eq_false, not_false_eq_true, if_true, if_false, or_self, and_self, true_and, and_true, or_true, true_or, false_or, or_false, false_and, and_false]
    exact ih
theorem l_fnD (hO : XO E ah A) (h8 : S 8 = .inr (5, [.ref (A 9), .ref (A 10), .ref (A 11), .ref (A 12)])) {D : Nat → Int64} (h10 : S 10 = .inl (1, 5, .inr (.inl D))) {k u r : Nat} (hk : 1 ≤ k) (hk4 : k ≤ 4) (hu : 0 < u) (hu2 : u ≤ 1000000000000) (hr : r ≤ 60) {a1 : Option Value} {a2 a3 : Int32} : ∀ z f X R, f + z = 7 → WP E (c + 4) 84 126 [some (.ref (A 8)), a1, some (.int a2), some (.int a3), some (.int (nI r)), some (.int (nI k)), some (.long (lN u)), none, some (.long (lN (10 ^ f))), none, some (.int (nI f))] [] (oh E ah A (fT S X R)) (fun r1 x1 => r1 = some (.int (fnN (k + 1) (lN u) r D z f)) ∧ ∃ X' R', x1 = oh E ah A (fT S X' R'))
  | 0, f, X, R, hz => by
    rw [show f = 7 by omega, r84_126]
    simp (disch := first | assumption | omega | decide | (simp only [List.length_cons, List.length_nil, Nat.reduceAdd, Nat.reduceLT]; done) | fail) only [r84_128, r84_130, r84_165, r84_166, oGF_is, WPo_some, List.getElem?_cons_succ, List.getElem?_cons_zero, kil_n, kil_i, kil_a, kil_u, kil_l, Option.toList_some, Option.toList_none, List.cons_append, List.nil_append, List.set_cons_succ, List.set_cons_zero, addm1, Nat.reduceAdd, List.length_cons, List.length_nil, Nat.reduceLT, nI_clamp, nI_toInt, nI_leL, nI_Lle, nI_ltL, nI_Llt, nI_eqL, nI_Leq, nI_leE, nI_ltE, nI_eqE, nI_eqM, nI_add, nI_addL, nI_Ladd, nI_mulL, nI_Lmul, pk_mul, pk_sub, nI_subL, nI_Lsub, i2l_nI, Int.toNat_natCast, Nat.not_lt_zero, Nat.zero_le, ifT, ifF, not_true_eq_false, not_false_eq_true, if_true, if_false, or_self, and_self, true_and, and_true, or_true, true_or, false_or, or_false, false_and, and_false]
    exact ⟨rfl, X, R, rfl⟩
  | z + 1, f, X, R, hz => by
    have b1 : 10 ^ f ≤ 10 ^ 12 := Nat.pow_le_pow_right (by decide) (by omega)
    have b0 : 0 < 10 ^ f := Nat.pow_pos (by decide)
    obtain ⟨X', R', a⟩ := c_allRight (E := E) (c := c) (X := X) (R := R) hO h8 h10 hk hk4 hu hu2 (b := 10 ^ f) b0 (Nat.le_trans b1 (by decide)) hr
    have ih := l_fnD hO h8 h10 hk hk4 hu hu2 hr (a1 := a1) (a2 := a2) (a3 := a3) z (f + 1) X' R' (by omega)
    have e1 : lN (10 ^ f) * 10 = lN (10 ^ (f + 1)) := lN_mul (10 ^ f) 10
    have hc := hO.ci8 (S := fT S X R) (by rw [fT_8]; exact h8)
    have fn : fnN (k + 1) (lN u) r D (z + 1) f = if alR (k + 1) (lN u) (lN (10 ^ f)) r D (rnD D (lN u) (lN (10 ^ f))) = 0 then fnN (k + 1) (lN u) r D z (f + 1) else nI f := rfl
    rw [fn, r84_126]
    generalize alR (k + 1) (lN u) (lN (10 ^ f)) r D (rnD D (lN u) (lN (10 ^ f))) = w at a ⊢
    generalize lN (10 ^ f) = V at e1 a ⊢
    by_cases y : w = 0
    · rw [if_pos y]
      simp (disch := first | assumption | omega | decide | (simp only [List.length_cons, List.length_nil, Nat.reduceAdd, Nat.reduceLT]; done) | fail) only [r84_128, r84_130, r84_133, r84_134, r84_136, r84_138, r84_140, r84_145, r84_148, r84_150, r84_151, r84_153, r84_156, r84_157, r84_159, r84_162, q84_142 a hc, e1, y, oGF_is, WPo_some, List.getElem?_cons_succ, List.getElem?_cons_zero, kil_n, kil_i, kil_a, kil_u, kil_l, Option.toList_some, Option.toList_none, List.cons_append, List.nil_append, List.set_cons_succ, List.set_cons_zero, addm1, Nat.reduceAdd, List.length_cons, List.length_nil, Nat.reduceLT, nI_clamp, nI_toInt, nI_leL, nI_Lle, nI_ltL, nI_Llt, nI_eqL, nI_Leq, nI_leE, nI_ltE, nI_eqE, nI_eqM, nI_add, nI_addL, nI_Ladd, nI_mulL, nI_Lmul, pk_mul, pk_sub, nI_subL, nI_Lsub, i2l_nI, Int.toNat_natCast, Nat.not_lt_zero, Nat.zero_le, ifT, ifF, not_true_eq_false, not_false_eq_true, if_true, if_false, or_self, and_self, true_and, and_true, or_true, true_or, false_or, or_false, false_and, and_false]
      exact ih
    · rw [if_neg y]
      simp (disch := first | assumption | omega | decide | (simp only [List.length_cons, List.length_nil, Nat.reduceAdd, Nat.reduceLT]; done) | fail) only [r84_128, r84_130, r84_133, r84_134, r84_136, r84_138, r84_140, r84_145, r84_148, r84_150, q84_142 a hc, y, oGF_is, WPo_some, List.getElem?_cons_succ, List.getElem?_cons_zero, kil_n, kil_i, kil_a, kil_u, kil_l, Option.toList_some, Option.toList_none, List.cons_append, List.nil_append, List.set_cons_succ, List.set_cons_zero, addm1, Nat.reduceAdd, List.length_cons, List.length_nil, Nat.reduceLT, nI_clamp, nI_toInt, nI_leL, nI_Lle, nI_ltL, nI_Llt, nI_eqL, nI_Leq, nI_leE, nI_ltE, nI_eqE, nI_eqM, nI_add, nI_addL, nI_Ladd, nI_mulL, nI_Lmul, pk_mul, pk_sub, nI_subL, nI_Lsub, i2l_nI, Int.toNat_natCast, Nat.not_lt_zero, Nat.zero_le, ifT, ifF, not_true_eq_false, not_false_eq_true, if_true, if_false, or_self, and_self, true_and, and_true, or_true, true_or, false_or, or_false, false_and, and_false]
      exact ⟨X', R', rfl⟩
end FV
/-! finer: the whole of the class' table -/
section FW
variable {E : aEnv} {c : Nat} {ah : aHp} {A : Nat → Nat} {S : Nat → aE} {sr : Nat → Int32} {mn : Nat → Nat} {tn : Nat → Nat → Int64}
/-- differences at zero of a tray's first k + 1 numbers -/
noncomputable def fd0 (t : Nat → Int64) (k : Nat) : Nat → Int64 := azO (k + 1) k 1 t
noncomputable def fP (t : Nat → Int64) (k M : Nat) (i : Nat) : Int64 := svP (fd0 t k) (lN M) k (lN i)
noncomputable def fiR (t : Nat → Int64) (k M r : Nat) : Int32 := fnN (k + 1) (lN (unN M k)) r (bkD (k + 1) (fP t k M)) 7 0
theorem svL_eq {d d' : Nat → Int64} {m i : Int64} : ∀ j s c, (∀ q, q < j → d q = d' q) → svL d m i j s c = svL d' m i j s c
  | 0, _, _, _ => rfl
  | j + 1, s, c, h => by
    unfold svL
    rw [h j (by omega), svL_eq j _ _ (fun q hq => h q (by omega))]
theorem svP_eq {d d' : Nat → Int64} {m i : Int64} {k : Nat} (h : eqN (k + 1) d d') : svP d m k i = svP d' m k i := by
  unfold svP
  rw [h k (by omega), svL_eq k _ _ (fun q hq => h q (by omega))]
theorem fnN_eq {n : Nat} (hn : 1 ≤ n) {u : Int64} {r : Nat} {D D' : Nat → Int64} (h : eqN n D D') : ∀ z f, fnN n u r D z f = fnN n u r D' z f
  | 0, _ => rfl
  | z + 1, f => by
    unfold fnN
    rw [alR_eq hn r D D' (rnD D u (lN (10 ^ f))) (rnD D' u (lN (10 ^ f))) h (fun i hi => by unfold rnD; rw [h i hi]), fnN_eq hn h z (f + 1)]
theorem unN_pos {M : Nat} (hM : 1 ≤ M) : ∀ k, 0 < unN M k
  | 0 => Nat.one_pos
  | k + 1 => Nat.mul_pos (unN_pos hM k) (Nat.mul_pos (by omega) (by omega))
theorem unN_le {M : Nat} (hM : M ≤ 20) : ∀ k, k ≤ 4 → unN M k ≤ 80 ^ k
  | 0, _ => Nat.le_refl _
  | k + 1, hk => by
    have h1 : M * (k + 1) ≤ 20 * 4 := Nat.mul_le_mul hM (by omega)
    rw [unN, Nat.pow_succ]
    exact Nat.mul_le_mul (unN_le hM k (by omega)) h1
theorem unN_le2 {M k : Nat} (hM : M ≤ 20) (hk : k ≤ 4) : unN M k ≤ 40960000 := Nat.le_trans (unN_le hM k hk) (Nat.le_trans (Nat.pow_le_pow_right (by decide) hk) (by decide))
theorem c_figures (hO : XO E ah A) (hF : fnX A S) (ht : trS A S sr mn tn) {j k M r : Nat} (hj : j < 4) (hk : 1 ≤ k) (hk4 : k ≤ 4) (hm : k + 1 ≤ mn j) (hM : 2 ≤ M ∧ M ≤ 20) (hr : r ≤ 60) : ∃ S', EV E (c + 4) 84 [.ref (A 8), .ref (A (73 + 2 * j)), .int (nI k), .int (nI M), .int (nI r)] (oh E ah A S) (some (.int (fiR (tn j) k M r))) (oh E ah A S') ∧ fnX A S' ∧ ∀ q, ¬ (8 ≤ q ∧ q ≤ 12) → S' q = S q := by
  obtain ⟨h8, ⟨a9, h9⟩, ⟨a10, h10⟩, ⟨a11, h11⟩, ⟨a12, h12⟩⟩ := hF
  have u0 := unN_pos (M := M) (by omega) k
  have u1 := unN_le2 hM.2 hk4
  let d := azO (k + 1) (k + 1 - 1) 1 (ovr a9 0 (k + 1) (tn j))
  let D := bkD (k + 1) (ovr a10 0 (k + 1) (fun i => svP d (nI M).toInt64 k (lN i)))
  have ed : eqN (k + 1) d (fd0 (tn j) k) := azO_eq k 1 _ _ (by omega) (by omega) (fun i hi => ovr0_in hi)
  have eD : eqN (k + 1) D (bkD (k + 1) (fP (tn j) k M)) := bkD_eq (by omega) (fun i hi => by
    rw [ovr0_in hi]
    show svP d (nI M).toInt64 k (lN i) = fP (tn j) k M i
    rw [nI_l (show M < 2 ^ 31 by omega), svP_eq ed]
    rfl)
  have l4 := l_fnD (E := E) (c := c) (S := fV S d D) hO (by rw [fV_8]; exact h8) fV_10 hk hk4 u0 (Nat.le_trans u1 (by decide)) hr (a1 := some (.ref (A (73 + 2 * j)))) (a2 := nI k) (a3 := nI M) 7 0 a11 a12 (by omega)
  rw [fT_of (by rw [fV_ne (by decide) (by decide)]; exact h11) (by rw [fV_ne (by decide) (by decide)]; exact h12), fnN_eq (by omega) eD 7 0] at l4
  have k1 := c_toAxes (E := E) (c := c + 1) (a := A 10) (n := k + 1) (L := 5) (ah := oh E ah A (fV S d (ovr a10 0 (k + 1) (fun i => svP d (nI M).toInt64 k (lN i))))) (by omega) (by decide) (by omega) (by rw [hx_10 hO, fV_10])
  rw [sx_10 hO, fV_s10] at k1
  have l3 := l_fnC (c := c + 2) (X := d) (R := a10) (S := S) hO h8 hk4 (M := M) (a1 := some (.ref (A (73 + 2 * j)))) (a4 := nI r) (u := lN (unN M k)) (Q := fun r1 x1 => r1 = some (.int (fiR (tn j) k M r)) ∧ ∃ X' R', x1 = oh E ah A (fT (fV S d D) X' R')) (K := by
    simp (disch := first | assumption | omega | decide | (simp only [List.length_cons, List.length_nil, Nat.reduceAdd, Nat.reduceLT]; done) | fail) only [r84_109, r84_110, r84_113, r84_115, r84_116, r84_120, r84_121, r84_123, r84_124, hx_8 hO, fV_8, h8, q84_117 k1, oGF_is, WPo_some, List.getElem?_cons_succ, List.getElem?_cons_zero, kil_n, kil_i, kil_a, kil_u, kil_l, Option.toList_some, Option.toList_none, List.cons_append, List.nil_append, List.set_cons_succ, List.set_cons_zero, addm1, Nat.reduceAdd, List.length_cons, List.length_nil, Nat.reduceLT, nI_clamp, nI_toInt, nI_leL, nI_Lle, nI_ltL, nI_Llt, nI_eqL, nI_Leq, nI_leE, nI_ltE, nI_eqE, nI_eqM, nI_add, nI_addL, nI_Ladd, nI_mulL, nI_Lmul, pk_mul, pk_sub, nI_subL, nI_Lsub, i2l_nI, Int.toNat_natCast, Nat.not_lt_zero, Nat.zero_le, ifT, ifF]
    exact l4) (k + 1) 0 (by omega)
  have l2 := l_fnB (E := E) (c := c + 4) (ah := oh E ah A (fV S d a10)) (M := M) hk4 hM.2 (a0 := some (.ref (A 8))) (a1 := some (.ref (A (73 + 2 * j)))) (a2 := some (.int (nI k))) (a4 := nI r) (Q := fun r1 x1 => r1 = some (.int (fiR (tn j) k M r)) ∧ ∃ X' R', x1 = oh E ah A (fT (fV S d D) X' R')) (K := by
    rw [ovr_0] at l3
    simp (disch := first | assumption | omega | decide | (simp only [List.length_cons, List.length_nil, Nat.reduceAdd, Nat.reduceLT]; done) | fail) only [r84_77, r84_78, oGF_is, WPo_some, List.getElem?_cons_succ, List.getElem?_cons_zero, kil_n, kil_i, kil_a, kil_u, kil_l, Option.toList_some, Option.toList_none, List.cons_append, List.nil_append, List.set_cons_succ, List.set_cons_zero, addm1, Nat.reduceAdd, List.length_cons, List.length_nil, Nat.reduceLT]
    exact l3) k 0 (by omega)
  have k2 := c_atZero (E := E) (c := c + 2) (a := A 9) (n := k + 1) (L := 5) (ah := oh E ah A (fV S (ovr a9 0 (k + 1) (tn j)) a10)) (by omega) (by decide) (by omega) (by rw [hx_9 hO, fV_9])
  rw [sx_9 hO, fV_s9] at k2
  have l1 := l_fnA (c := c + 2) (X := a9) (R := a10) hO h8 ht hj hk4 hm (a3 := nI M) (a4 := nI r) (Q := fun r1 x1 => r1 = some (.int (fiR (tn j) k M r)) ∧ ∃ X' R', x1 = oh E ah A (fT (fV S d D) X' R')) (K := by
    simp (disch := first | assumption | omega | decide | (simp only [List.length_cons, List.length_nil, Nat.reduceAdd, Nat.reduceLT]; done) | fail) only [r84_36, r84_37, r84_40, r84_42, r84_43, r84_47, r84_48, r84_50, r84_51, hx_8 hO, fV_8, h8, q84_44 k2, oGF_is, WPo_some, List.getElem?_cons_succ, List.getElem?_cons_zero, kil_n, kil_i, kil_a, kil_u, kil_l, Option.toList_some, Option.toList_none, List.cons_append, List.nil_append, List.set_cons_succ, List.set_cons_zero, addm1, Nat.reduceAdd, List.length_cons, List.length_nil, Nat.reduceLT, nI_clamp, nI_toInt, nI_leL, nI_Lle, nI_ltL, nI_Llt, nI_eqL, nI_Leq, nI_leE, nI_ltE, nI_eqE, nI_eqM, nI_add, nI_addL, nI_Ladd, nI_mulL, nI_Lmul, pk_mul, pk_sub, nI_subL, nI_Lsub, i2l_nI, Int.toNat_natCast, Nat.not_lt_zero, Nat.zero_le, ifT, ifF]
    exact l2) (k + 1) 0 (by omega)
  rw [ovr_0, fV_of h9 h10] at l1
  obtain ⟨r1, x1, ⟨e1, X', R', e2⟩, w⟩ := WP.ex l1
  subst e1 e2
  have e3 : min k 4 = k := by omega
  have n4 : (4 : Int32) = nI 4 := rfl
  refine ⟨fT (fV S d D) X' R', e84 ?_, ⟨by rw [fT_8, fV_8]; exact h8, ⟨d, by rw [fT_ne (by decide) (by decide), fV_9]⟩, ⟨D, by rw [fT_10, fV_10]⟩, ⟨X', fT_11⟩, ⟨R', fT_12⟩⟩, fun q hq => by rw [fT_ne (by omega) (by omega), fV_ne (by omega) (by omega)]⟩
  have k3 := c_minN (E := E) (c := c + 3) (ah := oh E ah A S) (x := k) (y := 4) (by omega) (by decide)
  rw [e3, ← n4] at k3
  simp (disch := first | assumption | omega | decide | (simp only [List.length_cons, List.length_nil, Nat.reduceAdd, Nat.reduceLT]; done) | fail) only [r84_0, r84_1, r84_5, r84_7, r84_8, q84_2 k3, oGF_is, WPo_some, List.getElem?_cons_succ, List.getElem?_cons_zero, kil_n, kil_i, kil_a, kil_u, kil_l, Option.toList_some, Option.toList_none, List.cons_append, List.nil_append, List.set_cons_succ, List.set_cons_zero, addm1, Nat.reduceAdd, List.length_cons, List.length_nil, Nat.reduceLT]
  exact w
theorem x_finer_ok (hO : XO E ah A) {tx' sp : Nat} {hT eC tL st : Int32} (hX : S 0 = xO A tx' sp hT eC tL st) (hF : fnX A S) (ht : trS A S sr mn tn) {j k M r : Nat} (hj : j < 4) (hs : fiSt sr mn tn (nI j) (nI k) (nI M) (nI r) = 0) (hk : 1 ≤ k) (hk4 : k ≤ 4) (hm : k + 1 ≤ mn j) (hM : 2 ≤ M ∧ M ≤ 20) (hr : r ≤ 60) : ∃ S', EV E (c + 5) 161 [.ref (A 0), .int (nI j), .int (nI k), .int (nI M), .int (nI r)] (oh E ah A S) (some (.int (fiR (tn j) k M r))) (oh E ah A S') ∧ S' 0 = xO A tx' sp hT eC tL (if fiR (tn j) k M r = -1 then 8 else 0) ∧ fnX A S' ∧ ∀ q, q ≠ 0 → ¬ (8 ≤ q ∧ q ≤ 12) → S' q = S q := by
  have hc := hO.c0 hX
  let S1 := su S 0 (xO A tx' sp hT eC tL 0)
  have hF1 : fnX A S1 := by
    unfold fnX
    simp only [S1, su_ne (show ¬ 8 = 0 by decide), su_ne (show ¬ 9 = 0 by decide), su_ne (show ¬ 10 = 0 by decide), su_ne (show ¬ 11 = 0 by decide), su_ne (show ¬ 12 = 0 by decide)]
    exact hF
  obtain ⟨S2, k1, hF2, hq2⟩ := c_figures (c := c) hO hF1 ht.x hj hk hk4 hm hM hr
  have hX2 : S2 0 = xO A tx' sp hT eC tL 0 := by rw [hq2 0 (by omega)]; exact su_at
  have hX1 : S1 0 = xO A tx' sp hT eC tL 0 := su_at
  have hc8 := hO.ci8 hF1.1
  have hX' := hX
  have hX1' := hX1
  have hX2' := hX2
  refine ⟨su S2 0 (xO A tx' sp hT eC tL (if fiR (tn j) k M r = -1 then 8 else 0)), e161 ?_, su_at, ?_, fun q h0 hq => by rw [su_ne h0, hq2 q hq]; exact su_ne h0⟩
  · have e0 : su S 0 (xO A tx' sp hT eC tL 0) = S1 := rfl
    have f1 : su S2 0 (xO A tx' sp hT eC tL 0) = S2 := by rw [← hX2]; exact su_self
    by_cases y : fiR (tn j) k M r = -1
    · rw [if_pos y]
      unfold xO at hX' hX1' hX2' e0 ⊢
      simp (disch := first | assumption | omega | decide | (simp only [List.length_cons, List.length_nil, Nat.reduceAdd, Nat.reduceLT]; done) | fail) only [r161_0, r161_1, r161_5, r161_5n, r161_7, r161_8, r161_8n, r161_10, r161_11, r161_12, r161_17, r161_20, r161_21, r161_24, r161_27, r161_28, r161_29, r161_30, r161_33, r161_33n, r161_35, r161_36, r161_37, r161_42, r161_44, r161_46, r161_47, r161_50, r161_51, r161_53, r161_56, r161_58, q161_2 (c_trayAt hO hX ht hj) hc, q161_14 (c_finerSt hO ht hj), hs, hx_0 hO, hX', hX1', hX2', pf_10150, sx_0 hO, e0, q161_39 k1 hc8, y, oGF_is, WPo_some, List.getElem?_cons_succ, List.getElem?_cons_zero, kil_n, kil_i, kil_a, kil_u, kil_l, Option.toList_some, Option.toList_none, List.cons_append, List.nil_append, List.set_cons_succ, List.set_cons_zero, addm1, Nat.reduceAdd, List.length_cons, List.length_nil, Nat.reduceLT, not_true_eq_false, not_false_eq_true, if_true, if_false, or_self, and_self, true_and, and_true, or_true, true_or, false_or, or_false, false_and, and_false]
    · rw [if_neg y, f1]
      unfold xO at hX' hX1' hX2' e0
      simp (disch := first | assumption | omega | decide | (simp only [List.length_cons, List.length_nil, Nat.reduceAdd, Nat.reduceLT]; done) | fail) only [r161_0, r161_1, r161_5, r161_5n, r161_7, r161_8, r161_8n, r161_10, r161_11, r161_12, r161_17, r161_20, r161_21, r161_24, r161_27, r161_28, r161_29, r161_30, r161_33, r161_33n, r161_35, r161_36, r161_37, r161_42, r161_44, r161_46, r161_47, r161_50, r161_51, r161_53, r161_56, r161_58, q161_2 (c_trayAt hO hX ht hj) hc, q161_14 (c_finerSt hO ht hj), hs, hx_0 hO, hX', hX1', hX2', pf_10150, sx_0 hO, e0, q161_39 k1 hc8, y, oGF_is, WPo_some, List.getElem?_cons_succ, List.getElem?_cons_zero, kil_n, kil_i, kil_a, kil_u, kil_l, Option.toList_some, Option.toList_none, List.cons_append, List.nil_append, List.set_cons_succ, List.set_cons_zero, addm1, Nat.reduceAdd, List.length_cons, List.length_nil, Nat.reduceLT, not_true_eq_false, not_false_eq_true, if_true, if_false, or_self, and_self, true_and, and_true, or_true, true_or, false_or, or_false, false_and, and_false]
  · unfold fnX
    simp only [su_ne (show ¬ 8 = 0 by decide), su_ne (show ¬ 9 = 0 by decide), su_ne (show ¬ 10 = 0 by decide), su_ne (show ¬ 11 = 0 by decide), su_ne (show ¬ 12 = 0 by decide)]
    exact hF2
end FW

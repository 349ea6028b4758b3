/-! The class' finer table: the scaled values -/
noncomputable def svL (d : Nat → Int64) (m i : Int64) : Nat → Int64 → Int64 → Int64
  | 0, s, _ => s
  | j + 1, s, c => svL d m i j (d j * (c * (m * lN (j + 1))) + (i - lN j * m) * s) (c * (m * lN (j + 1)))
/-- the polynomial at i, times its scale -/
noncomputable def svP (d : Nat → Int64) (m : Int64) (k : Nat) (i : Int64) : Int64 := svL d m i k (d k) 1
theorem sv_1 {d : Nat → Int64} {m i : Int64} : svP d m 1 i = p1 (d 0) (d 1) m i := by
  unfold svP p1
  simp only [svL, show lN 0 = 0 from rfl, show lN (0 + 1) = 1 from rfl]
  grind
theorem sv_2 {d : Nat → Int64} {m i : Int64} : svP d m 2 i = p2 (d 0) (d 1) (d 2) m i := by
  unfold svP p2
  simp only [svL, show lN 0 = 0 from rfl, show lN 1 = 1 from rfl, show lN (0 + 1) = 1 from rfl, show lN (1 + 1) = 2 from rfl]
  grind
theorem sv_3 {d : Nat → Int64} {m i : Int64} : svP d m 3 i = p3 (d 0) (d 1) (d 2) (d 3) m i := by
  unfold svP p3
  simp only [svL, show lN 0 = 0 from rfl, show lN 1 = 1 from rfl, show lN 2 = 2 from rfl, show lN (0 + 1) = 1 from rfl, show lN (1 + 1) = 2 from rfl, show lN (2 + 1) = 3 from rfl]
  grind
theorem sv_4 {d : Nat → Int64} {m i : Int64} : svP d m 4 i = p4 (d 0) (d 1) (d 2) (d 3) (d 4) m i := by
  unfold svP p4
  simp only [svL, show lN 0 = 0 from rfl, show lN 1 = 1 from rfl, show lN 2 = 2 from rfl, show lN 3 = 3 from rfl, show lN (0 + 1) = 1 from rfl, show lN (1 + 1) = 2 from rfl, show lN (2 + 1) = 3 from rfl, show lN (3 + 1) = 4 from rfl]
  grind
section FIX
variable {E : aEnv} {c : Nat} {ah : aHp} {A : Nat → Nat} {S : Nat → aE}
theorem l_sv (hO : XO E ah A) (h8 : S 8 = .inr (5, [.ref (A 9), .ref (A 10), .ref (A 11), .ref (A 12)])) {d : Nat → Int64} (h9 : S 9 = .inl (1, 5, .inr (.inl d))) {i m : Int32} {l2 : Option Value} : ∀ j s sc, j ≤ 4 → WP E c 85 14 [some (.ref (A 8)), some (.int i), l2, some (.int m), some (.long s), none, some (.long sc), none, some (.int (nI j))] [] (oh E ah A S) (fun r1 x1 => r1 = some (.long (svL d m.toInt64 i.toInt64 j s sc)) ∧ x1 = oh E ah A S)
  | 0, s, sc, hj => by
    rw [r85_14]
    simp (disch := first | assumption | omega | decide | (simp only [List.length_cons, List.length_nil, Nat.reduceAdd, Nat.reduceLT]; done) | fail) only [r85_16, r85_17, r85_66, r85_68, oGF_is, WPo_some, List.getElem?_cons_succ, List.getElem?_cons_zero, kil_n, kil_i, kil_a, kil_u, kil_l, Option.toList_some, Option.toList_none, List.cons_append, List.nil_append, List.set_cons_succ, List.set_cons_zero, addm1, Nat.reduceAdd, List.length_cons, List.length_nil, Nat.reduceLT, nI_clamp, nI_toInt, nI_leL, nI_Lle, nI_ltL, nI_Llt, nI_eqL, nI_Leq, nI_leE, nI_ltE, nI_eqE, nI_eqM, nI_add, nI_addL, nI_Ladd, nI_mulL, nI_Lmul, pk_mul, pk_sub, nI_subL, nI_Lsub, i2l_nI, Int.toNat_natCast, Nat.not_lt_zero, Nat.zero_le, ifT, ifF, not_true_eq_false, not_false_eq_true, if_true, if_false, or_self, and_self, true_and, and_true, or_true, true_or, false_or, or_false, false_and, and_false]
    exact rfl
  | j + 1, s, sc, hj => by
    have ih := l_sv hO h8 h9 (i := i) (m := m) (l2 := l2) j (d j * (sc * (m.toInt64 * lN (j + 1))) + (i.toInt64 - lN j * m.toInt64) * s) (sc * (m.toInt64 * lN (j + 1))) (by omega)
    rw [r85_14]
    simp (disch := first | assumption | omega | decide | (simp only [List.length_cons, List.length_nil, Nat.reduceAdd, Nat.reduceLT]; done) | fail) only [r85_16, r85_17, r85_20, r85_22, r85_23, r85_24, r85_26, r85_27, r85_28, r85_29, r85_31, r85_32, r85_35, r85_37, r85_38, r85_39, r85_40, r85_42, r85_43, r85_44, r85_45, r85_47, r85_48, r85_49, r85_50, r85_51, r85_52, r85_53, r85_54, r85_56, r85_57, r85_58, r85_60, r85_63, hx_8 hO, hx_9 hO, h8, h9, gL, nI_l, oGF_is, WPo_some, List.getElem?_cons_succ, List.getElem?_cons_zero, kil_n, kil_i, kil_a, kil_u, kil_l, Option.toList_some, Option.toList_none, List.cons_append, List.nil_append, List.set_cons_succ, List.set_cons_zero, addm1, Nat.reduceAdd, List.length_cons, List.length_nil, Nat.reduceLT, nI_clamp, nI_toInt, nI_leL, nI_Lle, nI_ltL, nI_Llt, nI_eqL, nI_Leq, nI_leE, nI_ltE, nI_eqE, nI_eqM, nI_add, nI_addL, nI_Ladd, nI_mulL, nI_Lmul, pk_mul, pk_sub, nI_subL, nI_Lsub, i2l_nI, Int.toNat_natCast, Nat.not_lt_zero, Nat.zero_le, ifT, ifF, not_true_eq_false, not_false_eq_true, if_true, if_false, or_self, and_self, true_and, and_true, or_true, true_or, false_or, or_false, false_and, and_false, Nat.add_sub_cancel]
    exact ih
theorem c_scaled (hO : XO E ah A) (h8 : S 8 = .inr (5, [.ref (A 9), .ref (A 10), .ref (A 11), .ref (A 12)])) {d : Nat → Int64} (h9 : S 9 = .inl (1, 5, .inr (.inl d))) {i m : Int32} {k : Nat} (hk : k ≤ 4) : EV E c 85 [.ref (A 8), .int i, .int (nI k), .int m] (oh E ah A S) (some (.long (svP d m.toInt64 k i.toInt64))) (oh E ah A S) := by
  refine e85 ?_
  have l := l_sv (c := c) hO h8 h9 (i := i) (m := m) (l2 := some (.int (nI k))) k (d k) 1 hk
  simp (disch := first | assumption | omega | decide | (simp only [List.length_cons, List.length_nil, Nat.reduceAdd, Nat.reduceLT]; done) | fail) only [r85_0, r85_1, r85_4, r85_5, r85_6, r85_8, r85_9, r85_11, r85_12, hx_8 hO, hx_9 hO, h8, h9, gL, oGF_is, WPo_some, List.getElem?_cons_succ, List.getElem?_cons_zero, kil_n, kil_i, kil_a, kil_u, kil_l, Option.toList_some, Option.toList_none, List.cons_append, List.nil_append, List.set_cons_succ, List.set_cons_zero, addm1, Nat.reduceAdd, List.length_cons, List.length_nil, Nat.reduceLT, nI_clamp, nI_toInt, nI_leL, nI_Lle, nI_ltL, nI_Llt, nI_eqL, nI_Leq, nI_leE, nI_ltE, nI_eqE, nI_eqM, nI_add, nI_addL, nI_Ladd, nI_mulL, nI_Lmul, pk_mul, pk_sub, nI_subL, nI_Lsub, i2l_nI, Int.toNat_natCast, Nat.not_lt_zero, Nat.zero_le, ifT, ifF, not_true_eq_false, not_false_eq_true, if_true, if_false, or_self, and_self, true_and, and_true, or_true, true_or, false_or, or_false, false_and, and_false]
  exact l
/-- an axis of the table turned without ends: what toAxes of the next values is -/
noncomputable def tx (n : Nat) (D : Nat → Int64) : Nat → Int64 := fun y => if y + 1 < n then D y + (if y % 2 = 0 then D (y + 1) else if y + 2 < n then D (y + 1) + D (y + 2) else D (y + 1)) else D y
theorem bk_turn_2 {P : Nat → Int64} (h : P 2 - 2 * P 1 + P 0 = 0) : eqN 2 (tx 2 (bkD 2 P)) (bkD 2 (fun i => P (i + 1))) := by
  intro i hi
  rcases (show i = 0 ∨ i = 1 by omega) with rfl | rfl
  · simp [tx, bkD, toA, azO, az1, ah1, vp_updL]
    grind
  · simp [tx, bkD, toA, azO, az1, ah1, vp_updL]
    grind
theorem bk_turn_3 {P : Nat → Int64} (h : P 3 - 3 * P 2 + 3 * P 1 - P 0 = 0) : eqN 3 (tx 3 (bkD 3 P)) (bkD 3 (fun i => P (i + 1))) := by
  intro i hi
  rcases (show i = 0 ∨ i = 1 ∨ i = 2 by omega) with rfl | rfl | rfl <;> (simp [tx, bkD, toA, azO, az1, ah1, vp_updL]; grind)
theorem bk_turn_4 {P : Nat → Int64} (h : P 4 - 4 * P 3 + 6 * P 2 - 4 * P 1 + P 0 = 0) : eqN 4 (tx 4 (bkD 4 P)) (bkD 4 (fun i => P (i + 1))) := by
  intro i hi
  rcases (show i = 0 ∨ i = 1 ∨ i = 2 ∨ i = 3 by omega) with rfl | rfl | rfl | rfl <;> (simp [tx, bkD, toA, azO, az1, ah1, vp_updL]; grind)
theorem bk_turn_5 {P : Nat → Int64} (h : P 5 - 5 * P 4 + 10 * P 3 - 10 * P 2 + 5 * P 1 - P 0 = 0) : eqN 5 (tx 5 (bkD 5 P)) (bkD 5 (fun i => P (i + 1))) := by
  intro i hi
  rcases (show i = 0 ∨ i = 1 ∨ i = 2 ∨ i = 3 ∨ i = 4 by omega) with rfl | rfl | rfl | rfl | rfl <;> (simp [tx, bkD, toA, azO, az1, ah1, vp_updL]; grind)
end FIX

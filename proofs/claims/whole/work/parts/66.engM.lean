/-! Engines of the model: asking, figure, put, number, mishap, mend -/
theorem nI_div {a b : Nat} (ha : a < 2 ^ 31) (hb : b < 2 ^ 31) : nI a / nI b = nI (a / b) := by
  apply Int32.toInt_inj.mp
  have h1 : a / b ≤ a := Nat.div_le_self a b
  rw [Int32.toInt_div, nI_toInt ha, nI_toInt hb, nI_toInt (by omega), ← Int.ofNat_tdiv]
  generalize a / b = q at h1 ⊢
  exact bm32 (by omega) (by omega)
theorem nI_rem {a b : Nat} (ha : a < 2 ^ 31) (hb : b < 2 ^ 31) : nI a - nI a / nI b * nI b = nI (a % b) := by
  have h1 : a / b * b ≤ a := Nat.div_mul_le_self a b
  rw [nI_div ha hb, pk_mul, pk_sub h1]
  congr 1
  have := Nat.div_add_mod a b
  rw [Nat.mul_comm] at this
  omega
/-- an engine of the model, its figures apart -/
noncomputable def EQ (ai : Nat → Nat → Int32) (e ax wh : Nat) (r : Nat → Nat) : Prop := e < 4 ∧ (2 ≤ ax ∧ ax ≤ 7 ∧ 1 ≤ wh ∧ wh ≤ 12) ∧ ai 6 e = nI ax ∧ ai 7 e = nI wh ∧ ∀ w, w < wh → ai 9 (12 * e + w) = nI (r w) ∧ 2 ≤ r w ∧ r w ≤ 12
noncomputable def EF (F : Nat → Int32) (e ax wh : Nat) (r : Nat → Nat) (fg : Nat → Nat → Nat) : Prop := ∀ x w, x < ax → w < wh → F (12 * (7 * e + x) + w) = nI (fg x w) ∧ fg x w < r w
noncomputable def EM (ai : Nat → Nat → Int32) (e ax wh : Nat) (r : Nat → Nat) (mq : Nat → Nat → Nat) (n : Nat) : Prop := ai 12 e = nI n ∧ n ≤ 20 ∧ ∀ i, i < n → (ai 13 (20 * e + i) = nI (mq 0 i) ∧ ai 14 (20 * e + i) = nI (mq 1 i) ∧ ai 15 (20 * e + i) = nI (mq 2 i) ∧ ai 16 (20 * e + i) = nI (mq 3 i)) ∧ mq 0 i ≤ 1000 ∧ mq 1 i + 1 < ax ∧ mq 2 i < wh ∧ mq 3 i ≤ 2
noncomputable def enM (v : Nat → Value) (ai : Nat → Nat → Int32) (en : Nat) (ax wh : Nat → Nat) (rx : Nat → Nat → Nat) (fg : Nat → Nat → Nat → Nat) (tu ms : Nat → Nat) (mq : Nat → Nat → Nat → Nat) : Prop :=
  en ≤ 4 ∧ v 5 = .int (nI en) ∧ (∀ e, e < en → EQ ai e (ax e) (wh e) (rx e) ∧ EF (ai 10) e (ax e) (wh e) (rx e) (fg e) ∧ (ai 8 e = nI (tu e) ∧ tu e ≤ 1000) ∧ EM ai e (ax e) (wh e) (rx e) (mq e) (ms e)) ∧ ∀ e, en ≤ e → e < 4 → ai 8 e = 0 ∧ ai 12 e = 0 ∧ ∀ p, p < 84 → ai 10 (84 * e + p) = 0
section ENM
variable {E : aEnv} {c m : Nat} {ah : aHp} {ma : Nat → Nat} {v : Nat → Value} {ai : Nat → Nat → Int32} {al : Nat → Nat → Int64} {en : Nat} {ax wh : Nat → Nat} {rx : Nat → Nat → Nat} {fg : Nat → Nat → Nat → Nat} {tu ms : Nat → Nat} {mq : Nat → Nat → Nat → Nat}
theorem lsb1 {n : Nat} (hn : n < 2 ^ 31) {z : Int} : (z ≤ (nI n - 1).toInt) = (z < n) := by
  cases n with
  | zero =>
    rw [show (nI 0 - 1 : Int32).toInt = -1 by decide]
    apply propext
    omega
  | succ n =>
    rw [nI_subL (by omega), nI_toInt (by omega)]
    apply propext
    omega
theorem m_isEngine (h : MO E ah m ma) (hv : v 5 = .int (nI en)) (h4 : en ≤ 4) {e : Int32} : EV E (c + 1) 207 [.ref m, .int e] (mh E ah m ma v ai al) (some (.int (b2i (0 ≤ e.toInt ∧ e.toInt < en)))) (mh E ah m ma v ai al) := by
  refine e207 ?_
  simp (disch := first | assumption | omega | decide | (simp only [List.length_cons, List.length_nil, Nat.reduceAdd, Nat.reduceLT]; done)) only [r207_0, r207_1, r207_2, r207_3, r207_4, r207_7, r207_8, r207_9, r207_13 (x := 0) (Or.inl rfl), r207_13 (x := 1) (Or.inr rfl), r207_13 (b2i_or _), mh_o h, gm_5, hv, WPo_some, List.getElem?_cons_succ, List.getElem?_cons_zero, kil_n, kil_i, kil_a, kil_u, kil_l, Option.toList_some, Option.toList_none, List.cons_append, List.nil_append, List.set_cons_succ, List.set_cons_zero, addm1, Nat.reduceAdd, List.length_cons, List.length_nil, Nat.reduceLT, q207_10 m_isIn, lsb1, i64_lt, i64_le, i2l_toInt, Int64.reduceToInt, not_true_eq_false, not_false_eq_true, if_true, if_false, or_self, and_self, true_and, and_true, or_true, true_or, false_or, or_false, false_and, and_false]
theorem m_isWheel (h : MO E ah m ma) (hm : enM v ai en ax wh rx fg tu ms mq) {e x w : Int32} : EV E (c + 2) 208 [.ref m, .int e, .int x, .int w] (mh E ah m ma v ai al) (some (.int (b2i ((0 ≤ e.toInt ∧ e.toInt < en) ∧ (0 ≤ x.toInt ∧ x.toInt < ax e.toInt.toNat) ∧ 0 ≤ w.toInt ∧ w.toInt < wh e.toInt.toNat)))) (mh E ah m ma v ai al) := by
  refine e208 ?_
  have h4 := hm.1
  by_cases h1 : 0 ≤ e.toInt ∧ e.toInt < en
  · obtain ⟨i, hi, rfl⟩ := i32_nat (n := en) h1.1 h1.2
    obtain ⟨⟨-, b1, b2, b3, b4⟩, -⟩ := hm.2.2.1 i hi
    simp (disch := first | assumption | omega | decide | (simp only [List.length_cons, List.length_nil, Nat.reduceAdd, Nat.reduceLT]; done)) only [r208_0, r208_1, r208_5, r208_8, r208_9, r208_10, r208_11, r208_12, r208_15, r208_16, r208_17, r208_18, r208_19, r208_23, r208_26, r208_27, r208_28, r208_29, r208_30, r208_33, r208_34, r208_35, r208_36, r208_37, r208_41, r208_44, r208_45, r208_48, r208_49 (x := 0) (Or.inl rfl), r208_49 (x := 1) (Or.inr rfl), r208_49 (b2i_or _), q208_2 (m_isEngine h hm.2.1 h4) h.ci, mh_o h, gm_6, gm_7, WPo_some, List.getElem?_cons_succ, List.getElem?_cons_zero, kil_n, kil_i, kil_a, kil_u, kil_l, Option.toList_some, Option.toList_none, List.cons_append, List.nil_append, List.set_cons_succ, List.set_cons_zero, addm1, Nat.reduceAdd, List.length_cons, List.length_nil, Nat.reduceLT, q208_20 m_isIn, q208_38 m_isIn, lsb1, i64_lt, i64_le, i2l_toInt, Int64.reduceToInt, not_true_eq_false, not_false_eq_true, if_true, if_false, or_self, and_self, true_and, and_true, or_true, true_or, false_or, or_false, false_and, and_false, b2i_eq0, gI, hm_6 h, hm_7 h, b2, b3, nI_clamp, nI_toInt, nI_leL, nI_Lle, nI_ltL, nI_Llt, nI_eqL, nI_Leq, nI_leE, nI_ltE, nI_eqE, nI_eqM, nI_add, nI_addL, nI_Ladd, nI_mulL, nI_Lmul, pk_mul, pk_sub, nI_subL, nI_Lsub, i2l_nI, Int.toNat_natCast, Nat.not_lt_zero, Nat.zero_le, ifT, ifF, h1, b2i]
    repeat' split
    all_goals first | exact trivial | exact ⟨rfl, rfl⟩ | (exfalso; omega) | (exfalso; simp_all; done) | (simp_all; done)
  · simp (disch := first | assumption | omega | decide | (simp only [List.length_cons, List.length_nil, Nat.reduceAdd, Nat.reduceLT]; done)) only [r208_0, r208_1, r208_5, r208_8, r208_9, r208_10, r208_11, r208_12, r208_15, r208_16, r208_17, r208_18, r208_19, r208_23, r208_26, r208_27, r208_28, r208_29, r208_30, r208_33, r208_34, r208_35, r208_36, r208_37, r208_41, r208_44, r208_45, r208_48, r208_49 (x := 0) (Or.inl rfl), r208_49 (x := 1) (Or.inr rfl), r208_49 (b2i_or _), q208_2 (m_isEngine h hm.2.1 h4) h.ci, WPo_some, List.getElem?_cons_succ, List.getElem?_cons_zero, kil_n, kil_i, kil_a, kil_u, kil_l, Option.toList_some, Option.toList_none, List.cons_append, List.nil_append, List.set_cons_succ, List.set_cons_zero, addm1, Nat.reduceAdd, List.length_cons, List.length_nil, Nat.reduceLT, h1, b2i_eq0, not_true_eq_false, not_false_eq_true, if_true, if_false, or_self, and_self, true_and, and_true, or_true, true_or, false_or, or_false, false_and, and_false, b2i]
theorem m_cell {ah : aHp} {e x w : Nat} : EV E c 209 [.int (nI e), .int (nI x), .int (nI w)] ah (some (.int (nI (12 * (7 * e + x) + w)))) ah := by
  refine e209 ?_
  simp (disch := first | assumption | omega | decide | (simp only [List.length_cons, List.length_nil, Nat.reduceAdd, Nat.reduceLT]; done)) only [r209_0, r209_2, r209_4, r209_5, r209_6, r209_7, r209_8, r209_9, r209_10, r209_11, WPo_some, List.getElem?_cons_succ, List.getElem?_cons_zero, kil_n, kil_i, kil_a, kil_u, kil_l, Option.toList_some, Option.toList_none, List.cons_append, List.nil_append, List.set_cons_succ, List.set_cons_zero, addm1, Nat.reduceAdd, List.length_cons, List.length_nil, Nat.reduceLT, nI_clamp, nI_toInt, nI_leL, nI_Lle, nI_ltL, nI_Llt, nI_eqL, nI_Leq, nI_leE, nI_ltE, nI_eqE, nI_eqM, nI_add, nI_addL, nI_Ladd, nI_mulL, nI_Lmul, pk_mul, pk_sub, nI_subL, nI_Lsub, i2l_nI, Int.toNat_natCast, Nat.not_lt_zero, Nat.zero_le, ifT, ifF, not_true_eq_false, not_false_eq_true, if_true, if_false, or_self, and_self, true_and, and_true, or_true, true_or, false_or, or_false, false_and, and_false]
theorem m_figure (h : MO E ah m ma) (hm : enM v ai en ax wh rx fg tu ms mq) {e x w : Int32} : EV E (c + 3) 212 [.ref m, .int e, .int x, .int w] (mh E ah m ma v ai al) (some (.int (if whSt en ax wh e x w = 0 then nI (fg e.toInt.toNat x.toInt.toNat w.toInt.toNat) else -1))) (mh E ah m ma (vu (vu v 1 (.int 0)) 0 (.int (whSt en ax wh e x w))) ai al) := by
  refine e212 ?_
  have h4 := hm.1
  have hm' : enM (vu (vu v 1 (.int 0)) 0 (.int 0)) ai en ax wh rx fg tu ms mq := hm
  by_cases h0 : whSt en ax wh e x w = 0
  · obtain ⟨i, j, k, hi, rfl, hj, rfl, hk, rfl⟩ := whSt_0 h4 h0
    obtain ⟨⟨-, b1, b2, b3, b4⟩, f1, -⟩ := hm.2.2.1 i hi
    simp (disch := first | assumption | omega | decide | (simp only [List.length_cons, List.length_nil, Nat.reduceAdd, Nat.reduceLT]; done)) only [r212_0, r212_1, r212_2, r212_5, r212_6, r212_7, r212_10, r212_11, r212_12, r212_13, r212_17, r212_20, r212_21, r212_24, r212_25, r212_26, r212_30, r212_31, r212_34, r212_35, r212_39, mh_o h, mh_put h, pm_1, pm_0, gm_10, WPo_some, List.getElem?_cons_succ, List.getElem?_cons_zero, kil_n, kil_i, kil_a, kil_u, kil_l, Option.toList_some, Option.toList_none, List.cons_append, List.nil_append, List.set_cons_succ, List.set_cons_zero, addm1, Nat.reduceAdd, List.length_cons, List.length_nil, Nat.reduceLT, q212_14 (m_isWheel h hm') h.ci, q212_27 m_cell, nI_toInt, Int.toNat_natCast, b2i_eq0, not_true_eq_false, not_false_eq_true, if_true, if_false, or_self, and_self, true_and, and_true, or_true, true_or, false_or, or_false, false_and, and_false, gI, hm_10 h, h0, nI_clamp, nI_toInt, nI_leL, nI_Lle, nI_ltL, nI_Llt, nI_eqL, nI_Leq, nI_leE, nI_ltE, nI_eqE, nI_eqM, nI_add, nI_addL, nI_Ladd, nI_mulL, nI_Lmul, pk_mul, pk_sub, nI_subL, nI_Lsub, i2l_nI, Int.toNat_natCast, Nat.not_lt_zero, Nat.zero_le, ifT, ifF, (f1 j k hj hk).1, show (0 : Int) ≤ (i : Int) ∧ (i : Int) < (en : Int) by omega, show (0 : Int) ≤ (j : Int) ∧ (j : Int) < (ax i : Int) by omega, show (0 : Int) ≤ (k : Int) ∧ (k : Int) < (wh i : Int) by omega]
  · have h5 : ¬ ((0 ≤ e.toInt ∧ e.toInt < en) ∧ (0 ≤ x.toInt ∧ x.toInt < ax e.toInt.toNat) ∧ 0 ≤ w.toInt ∧ w.toInt < wh e.toInt.toNat) := fun z => h0 (if_pos z)
    have h6 : whSt en ax wh e x w = 2 := if_neg h5
    simp (disch := first | assumption | omega | decide | (simp only [List.length_cons, List.length_nil, Nat.reduceAdd, Nat.reduceLT]; done)) only [r212_0, r212_1, r212_2, r212_5, r212_6, r212_7, r212_10, r212_11, r212_12, r212_13, r212_17, r212_20, r212_21, r212_24, r212_25, r212_26, r212_30, r212_31, r212_34, r212_35, r212_39, mh_o h, mh_put h, pm_1, pm_0, WPo_some, List.getElem?_cons_succ, List.getElem?_cons_zero, kil_n, kil_i, kil_a, kil_u, kil_l, Option.toList_some, Option.toList_none, List.cons_append, List.nil_append, List.set_cons_succ, List.set_cons_zero, addm1, Nat.reduceAdd, List.length_cons, List.length_nil, Nat.reduceLT, q212_14 (m_isWheel h hm') h.ci, h5, b2i_eq0, not_true_eq_false, not_false_eq_true, if_true, if_false, or_self, and_self, true_and, and_true, or_true, true_or, false_or, or_false, false_and, and_false, q212_36 (m_refuse h) h.ci, h6, vu_vu, show ¬ (2 : Int32) = 0 by decide]
end ENM

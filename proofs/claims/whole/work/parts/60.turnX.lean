/-! A turn of the class' engine -/
section MIS
variable (mq : Nat → Nat → Nat) (t x w : Nat)
/-- how many mishaps of a kind fall on a wheel in a turn, among the first ones -/
noncomputable def cn (k : Nat) : Nat → Nat
  | 0 => 0
  | i + 1 => cn k i + if mq 0 i = t ∧ mq 1 i = x ∧ mq 2 i = w ∧ mq 3 i = k then 1 else 0
/-- if any falls on it -/
noncomputable def hA : Nat → Bool
  | 0 => false
  | i + 1 => hA i || decide (mq 0 i = t ∧ mq 1 i = x ∧ mq 2 i = w)
end MIS
theorem hA_0 {mq : Nat → Nat → Nat} {t x w : Nat} {k : Nat} : ∀ {i : Nat}, hA mq t x w i = false → cn mq t x w k i = 0
  | 0, _ => rfl
  | i + 1, h => by
    simp only [hA, Bool.or_eq_false_iff, decide_eq_false_iff_not] at h
    simp only [cn, hA_0 h.1]
    rw [if_neg (fun z => h.2 ⟨z.1, z.2.1, z.2.2.1⟩)]
noncomputable def dec1 (r f : Nat) : Nat := if f = 0 then r - 1 else f - 1
noncomputable def dcN (r : Nat) : Nat → Nat → Nat
  | 0, f => f
  | k + 1, f => dec1 r (dcN r k f)
theorem dcN_lt {r : Nat} {f : Nat} (h : f < r) : ∀ k, dcN r k f < r
  | 0 => h
  | k + 1 => by
    have := dcN_lt h k
    simp only [dcN, dec1]
    split <;> omega
section TRN
variable (ax : Nat) (r : Nat → Nat) (jm sk : Nat → Nat → Bool)
noncomputable def addAx (x : Nat) (fg : Nat → Nat → Nat) : Nat → Nat → Nat := fun y => if y = x then f2A r (fg x) (fg (x + 1)) (jm x) (sk x) else fg y
noncomputable def adS : Nat → Nat → (Nat → Nat → Nat) → Nat → Nat → Nat
  | 0, _, fg => fg
  | k + 1, x, fg => if x + 1 < ax then adS k (x + 2) (addAx r jm sk x fg) else fg
end TRN
noncomputable def trn (ax : Nat) (r : Nat → Nat) (mq : Nat → Nat → Nat) (n t : Nat) (fg : Nat → Nat → Nat) : Nat → Nat → Nat := fun x w => dcN (r w) (cn mq t x w 0 n) (adS ax r (fun x w => decide (0 < cn mq t x w 2 n)) (fun x w => decide (0 < cn mq t x w 1 n)) 4 1 (adS ax r (fun x w => decide (0 < cn mq t x w 2 n)) (fun x w => decide (0 < cn mq t x w 1 n)) 4 0 fg) x w)
theorem f2A_lt {r f g : Nat → Nat} {jm sk : Nat → Bool} {w : Nat} (hf : f w < r w) (hg : g w < r w) : f2A r f g jm sk w < r w := by
  cases w with
  | zero => exact f1A_lt hf hg
  | succ w =>
    have := f1A_lt (jm := jm) hf hg
    simp only [f2A]
    split
    · split <;> omega
    · exact this
theorem ix_inj {wh x w x' w' : Nat} (hw : w < wh) (hw' : w' < wh) : (x * wh + w = x' * wh + w') = (x = x' ∧ w = w') := by
  apply propext
  constructor
  · intro h
    have h1 : (x * wh + w) / wh = x := by
      rw [Nat.mul_comm, Nat.mul_add_div (by omega), Nat.div_eq_of_lt hw, Nat.add_zero]
    have h2 : (x' * wh + w') / wh = x' := by
      rw [Nat.mul_comm, Nat.mul_add_div (by omega), Nat.div_eq_of_lt hw', Nat.add_zero]
    have h3 : x = x' := by rw [← h1, h, h2]
    subst h3
    exact ⟨rfl, by omega⟩
  · rintro ⟨rfl, rfl⟩
    rfl
theorem tv_or1 {s j : Bool} : tv s j ||| 1 = tv true j := by cases s <;> cases j <;> decide
theorem tv_or2 {s j : Bool} : tv s j ||| 2 = tv s true := by cases s <;> cases j <;> decide
section TUX
variable {E : aEnv} {c b ax wh : Nat} {ah : aHp} {A : Nat → Nat} {S : Nat → aE} {al : Int64} {ms tu : Int32} {ei : Nat → Nat → Int32} {el : Nat → Nat → Int64} {Q : Option Value → aHp → Prop} {mq : Nat → Nat → Nat} {n t : Nat}
/-- the mishaps that are noted -/
noncomputable def mqR (ax wh : Nat) (ei : Nat → Nat → Int32) (mq : Nat → Nat → Nat) (n : Nat) : Prop := n ≤ 20 ∧ ∀ i, i < n → (ei 2 i = nI (mq 0 i) ∧ ei 3 i = nI (mq 1 i) ∧ ei 4 i = nI (mq 2 i) ∧ ei 5 i = nI (mq 3 i)) ∧ mq 0 i ≤ 1000 ∧ mq 1 i + 1 < ax ∧ mq 2 i < wh ∧ mq 3 i ≤ 2
theorem l_mark (h : XB E ah A b) (ha : ax ≤ 7) (hw : wh ≤ 12) (ht : t ≤ 1000) (hm : mqR ax wh ei mq n) : ∀ z i T, i + z = n → (∀ x w, x < ax → w < wh → T (x * wh + w) = tv (decide (0 < cn mq t x w 1 i)) (decide (0 < cn mq t x w 2 i))) → ∃ T', (∀ x w, x < ax → w < wh → T' (x * wh + w) = tv (decide (0 < cn mq t x w 1 n)) (decide (0 < cn mq t x w 2 n))) ∧ WP E c 50 2 [some (.ref (A b)), some (.int (nI i))] [] (oh E ah A (eSt A S b ax wh al (nI n) (nI t) (iu ei 9 T) el)) (fun r1 x1 => r1 = none ∧ x1 = oh E ah A (eSt A S b ax wh al (nI n) (nI t) (iu ei 9 T') el))
  | 0, i, T, hz, hT => by
    rw [show i = n by omega] at hT ⊢
    refine ⟨T, hT, ?_⟩
    have hn := hm.1
    rw [r50_2]
    simp (disch := first | assumption | omega | decide | (simp only [List.length_cons, List.length_nil, Nat.reduceAdd, Nat.reduceLT]; done)) only [r50_3, r50_4, r50_7, r50_79, ge_0 h, oGF_is, WPo_some, List.getElem?_cons_succ, List.getElem?_cons_zero, kil_n, kil_i, kil_a, kil_u, kil_l, Option.toList_some, Option.toList_none, List.cons_append, List.nil_append, List.set_cons_succ, List.set_cons_zero, addm1, Nat.reduceAdd, List.length_cons, List.length_nil, Nat.reduceLT, nI_clamp, nI_toInt, nI_leL, nI_Lle, nI_ltL, nI_Llt, nI_eqL, nI_Leq, nI_leE, nI_ltE, nI_eqE, nI_eqM, nI_add, nI_addL, nI_Ladd, nI_mulL, nI_Lmul, pk_mul, pk_sub, nI_subL, nI_Lsub, i2l_nI, Int.toNat_natCast, Nat.not_lt_zero, Nat.zero_le, ifT, ifF, not_true_eq_false, not_false_eq_true, if_true, if_false, or_self, and_self, true_and, and_true, or_true, true_or, false_or, or_false, false_and, and_false]
  | z + 1, i, T, hz, hT => by
    have hn := hm.1
    obtain ⟨⟨e2, e3, e4, e5⟩, b0, b1, b2, b3⟩ := hm.2 i (by omega)
    have i1 := ix_lt (show mq 1 i < ax by omega) b2
    have i2 := ix_84 ha hw
    by_cases hq : mq 0 i = t ∧ ¬ mq 3 i = 0
    · have hT1 := hT (mq 1 i) (mq 2 i) (by omega) b2
      have key : ∀ v, (v = if mq 3 i = 1 then tv (decide (0 < cn mq t (mq 1 i) (mq 2 i) 1 i)) (decide (0 < cn mq t (mq 1 i) (mq 2 i) 2 i)) ||| 1 else tv (decide (0 < cn mq t (mq 1 i) (mq 2 i) 1 i)) (decide (0 < cn mq t (mq 1 i) (mq 2 i) 2 i)) ||| 2) → ∀ x w, x < ax → w < wh → upd T (mq 1 i * wh + mq 2 i) v (x * wh + w) = tv (decide (0 < cn mq t x w 1 (i + 1))) (decide (0 < cn mq t x w 2 (i + 1))) := by
        intro v hv x w hx hw'
        unfold upd
        by_cases e : x = mq 1 i ∧ w = mq 2 i
        · obtain ⟨rfl, rfl⟩ := e
          rw [if_pos rfl, hv, tv_or1, tv_or2]
          by_cases e1 : mq 3 i = 1
          · simp [cn, e1, hq.1]
          · have e6 : mq 3 i = 2 := by omega
            simp [cn, e6, hq.1]
        · have e' : ¬ x * wh + w = mq 1 i * wh + mq 2 i := by
            rw [ix_inj hw' b2]
            exact e
          rw [if_neg e', hT x w hx hw']
          have e6 : ∀ k, ¬ (mq 0 i = t ∧ mq 1 i = x ∧ mq 2 i = w ∧ mq 3 i = k) := fun k q => e ⟨q.2.1.symm, q.2.2.1.symm⟩
          simp [cn, e6]
      by_cases e1 : mq 3 i = 1
      · obtain ⟨T', h1, h2⟩ := l_mark h ha hw ht hm z (i + 1) _ (by omega) (key _ rfl)
        refine ⟨T', h1, ?_⟩
        rw [r50_2]
        rw [if_pos e1] at h2
        simp (disch := first | assumption | omega | decide | (simp only [List.length_cons, List.length_nil, Nat.reduceAdd, Nat.reduceLT]; done)) only [r50_3, r50_4, r50_7, r50_10, r50_11, r50_14, r50_15, r50_16, r50_17, r50_20, r50_23, r50_24, r50_27, r50_28, r50_29, r50_32, r50_33, r50_36, r50_37, r50_40, r50_41, r50_42, r50_43, r50_46, r50_47, r50_48, r50_51, r50_52, r50_53, r50_54, r50_54l, r50_55, r50_56, r50_57, r50_60, r50_61, r50_62, r50_63, r50_66, r50_67, r50_70, r50_71, r50_72, r50_73, r50_76, ge_0 h, oGF_is, WPo_some, List.getElem?_cons_succ, List.getElem?_cons_zero, kil_n, kil_i, kil_a, kil_u, kil_l, Option.toList_some, Option.toList_none, List.cons_append, List.nil_append, List.set_cons_succ, List.set_cons_zero, addm1, Nat.reduceAdd, List.length_cons, List.length_nil, Nat.reduceLT, nI_clamp, nI_toInt, nI_leL, nI_Lle, nI_ltL, nI_Llt, nI_eqL, nI_Leq, nI_leE, nI_ltE, nI_eqE, nI_eqM, nI_add, nI_addL, nI_Ladd, nI_mulL, nI_Lmul, pk_mul, pk_sub, nI_subL, nI_Lsub, i2l_nI, Int.toNat_natCast, Nat.not_lt_zero, Nat.zero_le, ifT, ifF, not_true_eq_false, not_false_eq_true, if_true, if_false, or_self, and_self, true_and, and_true, or_true, true_or, false_or, or_false, false_and, and_false, gI, pI, ge_2 h, ge_3 h, ge_4 h, ge_5 h, ge_9 h, se_9 h, iu_at, iu_ne, e2, e3, e4, e5, hq.1, hq.2, e1, hT1, iu_iu]
        exact h2
      · obtain ⟨T', h1, h2⟩ := l_mark h ha hw ht hm z (i + 1) _ (by omega) (key _ rfl)
        refine ⟨T', h1, ?_⟩
        rw [r50_2]
        rw [if_neg e1] at h2
        simp (disch := first | assumption | omega | decide | (simp only [List.length_cons, List.length_nil, Nat.reduceAdd, Nat.reduceLT]; done)) only [r50_3, r50_4, r50_7, r50_10, r50_11, r50_14, r50_15, r50_16, r50_17, r50_20, r50_23, r50_24, r50_27, r50_28, r50_29, r50_32, r50_33, r50_36, r50_37, r50_40, r50_41, r50_42, r50_43, r50_46, r50_47, r50_48, r50_51, r50_52, r50_53, r50_54, r50_54l, r50_55, r50_56, r50_57, r50_60, r50_61, r50_62, r50_63, r50_66, r50_67, r50_70, r50_71, r50_72, r50_73, r50_76, ge_0 h, oGF_is, WPo_some, List.getElem?_cons_succ, List.getElem?_cons_zero, kil_n, kil_i, kil_a, kil_u, kil_l, Option.toList_some, Option.toList_none, List.cons_append, List.nil_append, List.set_cons_succ, List.set_cons_zero, addm1, Nat.reduceAdd, List.length_cons, List.length_nil, Nat.reduceLT, nI_clamp, nI_toInt, nI_leL, nI_Lle, nI_ltL, nI_Llt, nI_eqL, nI_Leq, nI_leE, nI_ltE, nI_eqE, nI_eqM, nI_add, nI_addL, nI_Ladd, nI_mulL, nI_Lmul, pk_mul, pk_sub, nI_subL, nI_Lsub, i2l_nI, Int.toNat_natCast, Nat.not_lt_zero, Nat.zero_le, ifT, ifF, not_true_eq_false, not_false_eq_true, if_true, if_false, or_self, and_self, true_and, and_true, or_true, true_or, false_or, or_false, false_and, and_false, gI, pI, ge_2 h, ge_3 h, ge_4 h, ge_5 h, ge_9 h, se_9 h, iu_at, iu_ne, e2, e3, e4, e5, hq.1, hq.2, e1, hT1, iu_iu]
        exact h2
    · have key : ∀ x w, x < ax → w < wh → T (x * wh + w) = tv (decide (0 < cn mq t x w 1 (i + 1))) (decide (0 < cn mq t x w 2 (i + 1))) := by
        intro x w hx hw'
        rw [hT x w hx hw']
        have e6 : ∀ k, 0 < k → ¬ (mq 0 i = t ∧ mq 1 i = x ∧ mq 2 i = w ∧ mq 3 i = k) := fun k hk q => hq ⟨q.1, by omega⟩
        simp [cn, e6]
      obtain ⟨T', h1, h2⟩ := l_mark h ha hw ht hm z (i + 1) _ (by omega) key
      refine ⟨T', h1, ?_⟩
      rw [r50_2]
      by_cases e1 : mq 0 i = t
      · have e7 : mq 3 i = 0 := by omega
        simp (disch := first | assumption | omega | decide | (simp only [List.length_cons, List.length_nil, Nat.reduceAdd, Nat.reduceLT]; done)) only [r50_3, r50_4, r50_7, r50_10, r50_11, r50_14, r50_15, r50_16, r50_17, r50_20, r50_23, r50_24, r50_27, r50_28, r50_29, r50_32, r50_33, r50_36, r50_37, r50_40, r50_41, r50_42, r50_43, r50_46, r50_47, r50_48, r50_51, r50_52, r50_53, r50_54, r50_54l, r50_55, r50_56, r50_57, r50_60, r50_61, r50_62, r50_63, r50_66, r50_67, r50_70, r50_71, r50_72, r50_73, r50_76, ge_0 h, oGF_is, WPo_some, List.getElem?_cons_succ, List.getElem?_cons_zero, kil_n, kil_i, kil_a, kil_u, kil_l, Option.toList_some, Option.toList_none, List.cons_append, List.nil_append, List.set_cons_succ, List.set_cons_zero, addm1, Nat.reduceAdd, List.length_cons, List.length_nil, Nat.reduceLT, nI_clamp, nI_toInt, nI_leL, nI_Lle, nI_ltL, nI_Llt, nI_eqL, nI_Leq, nI_leE, nI_ltE, nI_eqE, nI_eqM, nI_add, nI_addL, nI_Ladd, nI_mulL, nI_Lmul, pk_mul, pk_sub, nI_subL, nI_Lsub, i2l_nI, Int.toNat_natCast, Nat.not_lt_zero, Nat.zero_le, ifT, ifF, not_true_eq_false, not_false_eq_true, if_true, if_false, or_self, and_self, true_and, and_true, or_true, true_or, false_or, or_false, false_and, and_false, gI, ge_2 h, ge_5 h, iu_at, iu_ne, e2, e3, e4, e5, e1, e7]
        exact h2
      · simp (disch := first | assumption | omega | decide | (simp only [List.length_cons, List.length_nil, Nat.reduceAdd, Nat.reduceLT]; done)) only [r50_3, r50_4, r50_7, r50_10, r50_11, r50_14, r50_15, r50_16, r50_17, r50_20, r50_23, r50_24, r50_27, r50_28, r50_29, r50_32, r50_33, r50_36, r50_37, r50_40, r50_41, r50_42, r50_43, r50_46, r50_47, r50_48, r50_51, r50_52, r50_53, r50_54, r50_54l, r50_55, r50_56, r50_57, r50_60, r50_61, r50_62, r50_63, r50_66, r50_67, r50_70, r50_71, r50_72, r50_73, r50_76, ge_0 h, oGF_is, WPo_some, List.getElem?_cons_succ, List.getElem?_cons_zero, kil_n, kil_i, kil_a, kil_u, kil_l, Option.toList_some, Option.toList_none, List.cons_append, List.nil_append, List.set_cons_succ, List.set_cons_zero, addm1, Nat.reduceAdd, List.length_cons, List.length_nil, Nat.reduceLT, nI_clamp, nI_toInt, nI_leL, nI_Lle, nI_ltL, nI_Llt, nI_eqL, nI_Leq, nI_leE, nI_ltE, nI_eqE, nI_eqM, nI_add, nI_addL, nI_Ladd, nI_mulL, nI_Lmul, pk_mul, pk_sub, nI_subL, nI_Lsub, i2l_nI, Int.toNat_natCast, Nat.not_lt_zero, Nat.zero_le, ifT, ifF, not_true_eq_false, not_false_eq_true, if_true, if_false, or_self, and_self, true_and, and_true, or_true, true_or, false_or, or_false, false_and, and_false, gI, ge_2 h, ge_5 h, iu_at, iu_ne, e2, e3, e4, e5, e1]
        exact h2
theorem c_mark (h : XB E ah A b) (ha : ax ≤ 7) (hw : wh ≤ 12) (ht : t ≤ 1000) (hm : mqR ax wh ei mq n) (hT : ∀ x w, x < ax → w < wh → ei 9 (x * wh + w) = 0) : ∃ T', (∀ x w, x < ax → w < wh → T' (x * wh + w) = tv (decide (0 < cn mq t x w 1 n)) (decide (0 < cn mq t x w 2 n))) ∧ EV E c 50 [.ref (A b)] (oh E ah A (eSt A S b ax wh al (nI n) (nI t) ei el)) none (oh E ah A (eSt A S b ax wh al (nI n) (nI t) (iu ei 9 T') el)) := by
  obtain ⟨T', h1, h2⟩ := l_mark (E := E) (c := c) (S := S) (al := al) (el := el) h ha hw ht hm n 0 (ei 9) (by omega) (fun x w hx hw' => by rw [hT x w hx hw']; simp [cn, tv, bI])
  refine ⟨T', h1, e50 ?_⟩
  simp only [r50_0, r50_1, oGF_is, WPo_some, List.getElem?_cons_succ, List.getElem?_cons_zero, kil_n, kil_i, kil_a, kil_u, kil_l, Option.toList_some, Option.toList_none, List.cons_append, List.nil_append, List.set_cons_succ, List.set_cons_zero, addm1, Nat.reduceAdd, List.length_cons, List.length_nil, Nat.reduceLT]
  rw [iu_self] at h2
  exact h2
theorem l_slip (h : XB E ah A b) (ha : ax ≤ 7) (hw : wh ≤ 12) (ht : t ≤ 1000) (hm : mqR ax wh ei mq n) {r : Nat → Nat} (hr : ∀ w, w < wh → ei 6 w = nI (r w) ∧ 1 ≤ r w ∧ r w ≤ 12) {fg : Nat → Nat → Nat} (hfg : ∀ x w, x < ax → w < wh → fg x w < r w) : ∀ z i F T, i + z = n → (∀ x w, x < ax → w < wh → F (x * wh + w) = nI (dcN (r w) (cn mq t x w 0 i) (fg x w))) → (∀ x w, x < ax → w < wh → T (x * wh + w) = if hA mq t x w i then 0 else tv (decide (0 < cn mq t x w 1 n)) (decide (0 < cn mq t x w 2 n))) → ∀ l2, ∃ F' T', (∀ x w, x < ax → w < wh → F' (x * wh + w) = nI (dcN (r w) (cn mq t x w 0 n) (fg x w))) ∧ (∀ x w, x < ax → w < wh → T' (x * wh + w) = 0) ∧ WP E c 53 2 [some (.ref (A b)), some (.int (nI i)), l2] [] (oh E ah A (eSt A S b ax wh al (nI n) (nI t) (iu (iu ei 8 F) 9 T) el)) (fun r1 x1 => r1 = none ∧ x1 = oh E ah A (eSt A S b ax wh al (nI n) (nI t) (iu (iu ei 8 F') 9 T') el))
  | 0, i, F, T, hz, hF, hT, l2 => by
    rw [show i = n by omega] at hF hT ⊢
    refine ⟨F, T, hF, fun x w hx hw' => ?_, ?_⟩
    · rw [hT x w hx hw']
      cases e : hA mq t x w n with
      | true => simp
      | false => simp [hA_0 e, tv, bI]
    · have hn := hm.1
      rw [r53_2]
      simp (disch := first | assumption | omega | decide | (simp only [List.length_cons, List.length_nil, Nat.reduceAdd, Nat.reduceLT]; done)) only [r53_3, r53_4, r53_7, r53_103, ge_0 h, oGF_is, WPo_some, List.getElem?_cons_succ, List.getElem?_cons_zero, kil_n, kil_i, kil_a, kil_u, kil_l, Option.toList_some, Option.toList_none, List.cons_append, List.nil_append, List.set_cons_succ, List.set_cons_zero, addm1, Nat.reduceAdd, List.length_cons, List.length_nil, Nat.reduceLT, nI_clamp, nI_toInt, nI_leL, nI_Lle, nI_ltL, nI_Llt, nI_eqL, nI_Leq, nI_leE, nI_ltE, nI_eqE, nI_eqM, nI_add, nI_addL, nI_Ladd, nI_mulL, nI_Lmul, pk_mul, pk_sub, nI_subL, nI_Lsub, i2l_nI, Int.toNat_natCast, Nat.not_lt_zero, Nat.zero_le, ifT, ifF, not_true_eq_false, not_false_eq_true, if_true, if_false, or_self, and_self, true_and, and_true, or_true, true_or, false_or, or_false, false_and, and_false]
  | z + 1, i, F, T, hz, hF, hT, l2 => by
    have hn := hm.1
    obtain ⟨⟨e2, e3, e4, e5⟩, b0, b1, b2, b3⟩ := hm.2 i (by omega)
    obtain ⟨r1, r2, r3⟩ := hr (mq 2 i) b2
    have i1 := ix_lt (show mq 1 i < ax by omega) b2
    have i2 := ix_84 ha hw
    have hF1 := hF (mq 1 i) (mq 2 i) (by omega) b2
    have hfl := dcN_lt (hfg (mq 1 i) (mq 2 i) (by omega) b2) (cn mq t (mq 1 i) (mq 2 i) 0 i)
    by_cases hq : mq 0 i = t
    · have kT : ∀ x w, x < ax → w < wh → upd T (mq 1 i * wh + mq 2 i) 0 (x * wh + w) = if hA mq t x w (i + 1) then 0 else tv (decide (0 < cn mq t x w 1 n)) (decide (0 < cn mq t x w 2 n)) := by
        intro x w hx hw'
        unfold upd
        by_cases e : x = mq 1 i ∧ w = mq 2 i
        · obtain ⟨rfl, rfl⟩ := e
          simp [hA, hq]
        · have e' : ¬ x * wh + w = mq 1 i * wh + mq 2 i := by
            rw [ix_inj hw' b2]
            exact e
          have e6 : ¬ (mq 1 i = x ∧ mq 2 i = w) := fun q => e ⟨q.1.symm, q.2.symm⟩
          rw [if_neg e', hT x w hx hw']
          simp [hA, e6]
      by_cases h3 : mq 3 i = 0
      · have kF : ∀ v, v = nI (dec1 (r (mq 2 i)) (dcN (r (mq 2 i)) (cn mq t (mq 1 i) (mq 2 i) 0 i) (fg (mq 1 i) (mq 2 i)))) → ∀ x w, x < ax → w < wh → upd F (mq 1 i * wh + mq 2 i) v (x * wh + w) = nI (dcN (r w) (cn mq t x w 0 (i + 1)) (fg x w)) := by
          intro v hv x w hx hw'
          unfold upd
          by_cases e : x = mq 1 i ∧ w = mq 2 i
          · obtain ⟨rfl, rfl⟩ := e
            rw [if_pos rfl, hv]
            simp [cn, hq, h3, dcN]
          · have e' : ¬ x * wh + w = mq 1 i * wh + mq 2 i := by
              rw [ix_inj hw' b2]
              exact e
            have e6 : ¬ (mq 0 i = t ∧ mq 1 i = x ∧ mq 2 i = w ∧ mq 3 i = 0) := fun q => e ⟨q.2.1.symm, q.2.2.1.symm⟩
            rw [if_neg e', hF x w hx hw']
            simp [cn, e6]
        by_cases h4 : dcN (r (mq 2 i)) (cn mq t (mq 1 i) (mq 2 i) 0 i) (fg (mq 1 i) (mq 2 i)) = 0
        · obtain ⟨F', T', a1, a2, a3⟩ := l_slip h ha hw ht hm hr hfg z (i + 1) _ _ (by omega) (kF (nI (r (mq 2 i) - 1)) (by rw [dec1, if_pos h4])) kT (some (.int (nI (mq 1 i * wh + mq 2 i))))
          refine ⟨F', T', a1, a2, ?_⟩
          rw [r53_2]
          simp (disch := first | assumption | omega | decide | (simp only [List.length_cons, List.length_nil, Nat.reduceAdd, Nat.reduceLT]; done)) only [r53_3, r53_4, r53_7, r53_10, r53_11, r53_14, r53_15, r53_16, r53_17, r53_20, r53_23, r53_24, r53_27, r53_28, r53_29, r53_30, r53_33, r53_34, r53_35, r53_38, r53_39, r53_40, r53_41, r53_42, r53_43, r53_46, r53_47, r53_48, r53_49, r53_50, r53_53, r53_54, r53_55, r53_58, r53_59, r53_62, r53_63, r53_64, r53_67, r53_68, r53_69, r53_72, r53_73, r53_76, r53_77, r53_80, r53_81, r53_82, r53_83, r53_84, r53_85, r53_88, r53_89, r53_92, r53_93, r53_94, r53_95, r53_96, r53_97, r53_100, ge_0 h, oGF_is, WPo_some, List.getElem?_cons_succ, List.getElem?_cons_zero, kil_n, kil_i, kil_a, kil_u, kil_l, Option.toList_some, Option.toList_none, List.cons_append, List.nil_append, List.set_cons_succ, List.set_cons_zero, addm1, Nat.reduceAdd, List.length_cons, List.length_nil, Nat.reduceLT, nI_clamp, nI_toInt, nI_leL, nI_Lle, nI_ltL, nI_Llt, nI_eqL, nI_Leq, nI_leE, nI_ltE, nI_eqE, nI_eqM, nI_add, nI_addL, nI_Ladd, nI_mulL, nI_Lmul, pk_mul, pk_sub, nI_subL, nI_Lsub, i2l_nI, Int.toNat_natCast, Nat.not_lt_zero, Nat.zero_le, ifT, ifF, not_true_eq_false, not_false_eq_true, if_true, if_false, or_self, and_self, true_and, and_true, or_true, true_or, false_or, or_false, false_and, and_false, gI, pI, ge_2 h, ge_3 h, ge_4 h, ge_5 h, ge_6 h, ge_8 h, ge_9 h, se_8 h, se_9 h, iu_at, iu_ne, e2, e3, e4, e5, hq, h3, hF1, r1, h4, iu_iu, iu_c]
          exact a3
        · obtain ⟨F', T', a1, a2, a3⟩ := l_slip h ha hw ht hm hr hfg z (i + 1) _ _ (by omega) (kF (nI (dcN (r (mq 2 i)) (cn mq t (mq 1 i) (mq 2 i) 0 i) (fg (mq 1 i) (mq 2 i)) - 1)) (by rw [dec1, if_neg h4])) kT (some (.int (nI (mq 1 i * wh + mq 2 i))))
          refine ⟨F', T', a1, a2, ?_⟩
          rw [r53_2]
          simp (disch := first | assumption | omega | decide | (simp only [List.length_cons, List.length_nil, Nat.reduceAdd, Nat.reduceLT]; done)) only [r53_3, r53_4, r53_7, r53_10, r53_11, r53_14, r53_15, r53_16, r53_17, r53_20, r53_23, r53_24, r53_27, r53_28, r53_29, r53_30, r53_33, r53_34, r53_35, r53_38, r53_39, r53_40, r53_41, r53_42, r53_43, r53_46, r53_47, r53_48, r53_49, r53_50, r53_53, r53_54, r53_55, r53_58, r53_59, r53_62, r53_63, r53_64, r53_67, r53_68, r53_69, r53_72, r53_73, r53_76, r53_77, r53_80, r53_81, r53_82, r53_83, r53_84, r53_85, r53_88, r53_89, r53_92, r53_93, r53_94, r53_95, r53_96, r53_97, r53_100, ge_0 h, oGF_is, WPo_some, List.getElem?_cons_succ, List.getElem?_cons_zero, kil_n, kil_i, kil_a, kil_u, kil_l, Option.toList_some, Option.toList_none, List.cons_append, List.nil_append, List.set_cons_succ, List.set_cons_zero, addm1, Nat.reduceAdd, List.length_cons, List.length_nil, Nat.reduceLT, nI_clamp, nI_toInt, nI_leL, nI_Lle, nI_ltL, nI_Llt, nI_eqL, nI_Leq, nI_leE, nI_ltE, nI_eqE, nI_eqM, nI_add, nI_addL, nI_Ladd, nI_mulL, nI_Lmul, pk_mul, pk_sub, nI_subL, nI_Lsub, i2l_nI, Int.toNat_natCast, Nat.not_lt_zero, Nat.zero_le, ifT, ifF, not_true_eq_false, not_false_eq_true, if_true, if_false, or_self, and_self, true_and, and_true, or_true, true_or, false_or, or_false, false_and, and_false, gI, pI, ge_2 h, ge_3 h, ge_4 h, ge_5 h, ge_6 h, ge_8 h, ge_9 h, se_8 h, se_9 h, iu_at, iu_ne, e2, e3, e4, e5, hq, h3, hF1, r1, h4, iu_iu, iu_c]
          exact a3
      · have kF : ∀ x w, x < ax → w < wh → F (x * wh + w) = nI (dcN (r w) (cn mq t x w 0 (i + 1)) (fg x w)) := by
          intro x w hx hw'
          rw [hF x w hx hw']
          simp [cn, h3]
        obtain ⟨F', T', a1, a2, a3⟩ := l_slip h ha hw ht hm hr hfg z (i + 1) _ _ (by omega) kF kT (some (.int (nI (mq 1 i * wh + mq 2 i))))
        refine ⟨F', T', a1, a2, ?_⟩
        rw [r53_2]
        simp (disch := first | assumption | omega | decide | (simp only [List.length_cons, List.length_nil, Nat.reduceAdd, Nat.reduceLT]; done)) only [r53_3, r53_4, r53_7, r53_10, r53_11, r53_14, r53_15, r53_16, r53_17, r53_20, r53_23, r53_24, r53_27, r53_28, r53_29, r53_30, r53_33, r53_34, r53_35, r53_38, r53_39, r53_40, r53_41, r53_42, r53_43, r53_46, r53_47, r53_48, r53_49, r53_50, r53_53, r53_54, r53_55, r53_58, r53_59, r53_62, r53_63, r53_64, r53_67, r53_68, r53_69, r53_72, r53_73, r53_76, r53_77, r53_80, r53_81, r53_82, r53_83, r53_84, r53_85, r53_88, r53_89, r53_92, r53_93, r53_94, r53_95, r53_96, r53_97, r53_100, ge_0 h, oGF_is, WPo_some, List.getElem?_cons_succ, List.getElem?_cons_zero, kil_n, kil_i, kil_a, kil_u, kil_l, Option.toList_some, Option.toList_none, List.cons_append, List.nil_append, List.set_cons_succ, List.set_cons_zero, addm1, Nat.reduceAdd, List.length_cons, List.length_nil, Nat.reduceLT, nI_clamp, nI_toInt, nI_leL, nI_Lle, nI_ltL, nI_Llt, nI_eqL, nI_Leq, nI_leE, nI_ltE, nI_eqE, nI_eqM, nI_add, nI_addL, nI_Ladd, nI_mulL, nI_Lmul, pk_mul, pk_sub, nI_subL, nI_Lsub, i2l_nI, Int.toNat_natCast, Nat.not_lt_zero, Nat.zero_le, ifT, ifF, not_true_eq_false, not_false_eq_true, if_true, if_false, or_self, and_self, true_and, and_true, or_true, true_or, false_or, or_false, false_and, and_false, gI, pI, ge_2 h, ge_3 h, ge_4 h, ge_5 h, ge_6 h, ge_8 h, ge_9 h, se_8 h, se_9 h, iu_at, iu_ne, e2, e3, e4, e5, hq, h3, hF1, r1, iu_iu, iu_c]
        exact a3
    · have kT : ∀ x w, x < ax → w < wh → T (x * wh + w) = if hA mq t x w (i + 1) then 0 else tv (decide (0 < cn mq t x w 1 n)) (decide (0 < cn mq t x w 2 n)) := by
        intro x w hx hw'
        rw [hT x w hx hw']
        simp [hA, hq]
      have kF : ∀ x w, x < ax → w < wh → F (x * wh + w) = nI (dcN (r w) (cn mq t x w 0 (i + 1)) (fg x w)) := by
        intro x w hx hw'
        rw [hF x w hx hw']
        simp [cn, hq]
      obtain ⟨F', T', a1, a2, a3⟩ := l_slip h ha hw ht hm hr hfg z (i + 1) _ _ (by omega) kF kT l2
      refine ⟨F', T', a1, a2, ?_⟩
      rw [r53_2]
      simp (disch := first | assumption | omega | decide | (simp only [List.length_cons, List.length_nil, Nat.reduceAdd, Nat.reduceLT]; done)) only [r53_3, r53_4, r53_7, r53_10, r53_11, r53_14, r53_15, r53_16, r53_17, r53_20, r53_23, r53_24, r53_27, r53_28, r53_29, r53_30, r53_33, r53_34, r53_35, r53_38, r53_39, r53_40, r53_41, r53_42, r53_43, r53_46, r53_47, r53_48, r53_49, r53_50, r53_53, r53_54, r53_55, r53_58, r53_59, r53_62, r53_63, r53_64, r53_67, r53_68, r53_69, r53_72, r53_73, r53_76, r53_77, r53_80, r53_81, r53_82, r53_83, r53_84, r53_85, r53_88, r53_89, r53_92, r53_93, r53_94, r53_95, r53_96, r53_97, r53_100, ge_0 h, oGF_is, WPo_some, List.getElem?_cons_succ, List.getElem?_cons_zero, kil_n, kil_i, kil_a, kil_u, kil_l, Option.toList_some, Option.toList_none, List.cons_append, List.nil_append, List.set_cons_succ, List.set_cons_zero, addm1, Nat.reduceAdd, List.length_cons, List.length_nil, Nat.reduceLT, nI_clamp, nI_toInt, nI_leL, nI_Lle, nI_ltL, nI_Llt, nI_eqL, nI_Leq, nI_leE, nI_ltE, nI_eqE, nI_eqM, nI_add, nI_addL, nI_Ladd, nI_mulL, nI_Lmul, pk_mul, pk_sub, nI_subL, nI_Lsub, i2l_nI, Int.toNat_natCast, Nat.not_lt_zero, Nat.zero_le, ifT, ifF, not_true_eq_false, not_false_eq_true, if_true, if_false, or_self, and_self, true_and, and_true, or_true, true_or, false_or, or_false, false_and, and_false, gI, ge_2 h, iu_at, iu_ne, e2, hq]
      exact a3
end TUX

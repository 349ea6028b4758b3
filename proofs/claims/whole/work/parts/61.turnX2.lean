/-! A turn of the class' engine, whole -/
/-- what an engine's cells say -/
noncomputable def egR (ax wh : Nat) (r : Nat → Nat) (fg : Nat → Nat → Nat) (mq : Nat → Nat → Nat) (n : Nat) (ei : Nat → Nat → Int32) (el : Nat → Nat → Int64) : Prop :=
  (2 ≤ ax ∧ ax ≤ 7 ∧ 1 ≤ wh ∧ wh ≤ 12) ∧ (∀ w, w < wh → ei 6 w = nI (r w) ∧ 2 ≤ r w ∧ r w ≤ 12) ∧ (∀ w, w < wh → el 7 w = lN (wt r w)) ∧ (∀ x w, x < ax → w < wh → ei 8 (x * wh + w) = nI (fg x w) ∧ fg x w < r w) ∧ (∀ x w, x < ax → w < wh → ei 9 (x * wh + w) = 0) ∧ mqR ax wh ei mq n
section TUY
variable {E : aEnv} {c b ax wh : Nat} {ah : aHp} {A : Nat → Nat} {S : Nat → aE} {al : Int64} {ms tu : Int32} {ei : Nat → Nat → Int32} {el : Nat → Nat → Int64} {Q : Option Value → aHp → Prop} {mq : Nat → Nat → Nat} {n t : Nat}
theorem mqR_iu {k : Nat} {X : Nat → Int32} (hm : mqR ax wh ei mq n) (hk : ¬ (2 = k ∨ 3 = k ∨ 4 = k ∨ 5 = k)) : mqR ax wh (iu ei k X) mq n := by
  refine ⟨hm.1, fun i hi => ?_⟩
  obtain ⟨⟨a, b, c, d⟩, e⟩ := hm.2 i hi
  rw [iu_ne (by omega), iu_ne (by omega), iu_ne (by omega), iu_ne (by omega)]
  exact ⟨⟨a, b, c, d⟩, e⟩
theorem addAx_R {F : Nat → Int32} {r : Nat → Nat} {fg : Nat → Nat → Nat} {jm sk : Nat → Nat → Bool} {x : Nat} (hx : x + 1 < ax) (hF : ∀ y w, y < ax → w < wh → F (y * wh + w) = nI (fg y w) ∧ fg y w < r w) : ∀ y w, y < ax → w < wh → ovr F (x * wh) wh (fun w => nI (f2A r (fg x) (fg (x + 1)) (jm x) (sk x) w)) (y * wh + w) = nI (addAx r jm sk x fg y w) ∧ addAx r jm sk x fg y w < r w := by
  intro y w hy hw
  unfold addAx
  by_cases e : y = x
  · subst e
    rw [if_pos rfl, ovr_in hw]
    exact ⟨rfl, f2A_lt (hF y w hy hw).2 (hF (y + 1) w hx hw).2⟩
  · rw [if_neg e, ovr_out]
    · exact hF y w hy hw
    · rcases Nat.lt_or_gt_of_ne e with z | z
      · left
        have := ix_lt (wh := wh) z hw
        omega
      · right
        have h1 : (x + 1) * wh ≤ y * wh := Nat.mul_le_mul_right _ z
        rw [Nat.succ_mul] at h1
        omega
theorem l_ev (h : XB E ah A b) (ha : ax ≤ 7) (hw : wh ≤ 12) (hw1 : 1 ≤ wh) {r : Nat → Nat} {jm sk : Nat → Nat → Bool} (hr : ∀ w, w < wh → ei 6 w = nI (r w) ∧ r w ≤ 12) (hT : ∀ x w, x < ax → w < wh → ei 9 (x * wh + w) = tv (sk x w) (jm x w)) : ∀ k x fg F Z, x ≤ 8 → ax ≤ x + 2 * k → (∀ y w, y < ax → w < wh → F (y * wh + w) = nI (fg y w) ∧ fg y w < r w) → ∃ F' Z' l1, (∀ y w, y < ax → w < wh → F' (y * wh + w) = nI (adS ax r jm sk k x fg y w) ∧ adS ax r jm sk k x fg y w < r w) ∧ (∀ Q, WP E (c + 2) 49 37 [some (.ref (A b)), l1] [] (oh E ah A (eSt A S b ax wh al ms tu (iu (iu ei 8 F') 10 Z') el)) Q → WP E (c + 2) 49 16 [some (.ref (A b)), some (.int (nI x))] [] (oh E ah A (eSt A S b ax wh al ms tu (iu (iu ei 8 F) 10 Z) el)) Q)
  | 0, x, fg, F, Z, h8, hk, hF => by
    refine ⟨F, Z, some (.int (nI x)), hF, fun Q K => ?_⟩
    rw [r49_16]
    simp (disch := first | assumption | omega | decide | (simp only [List.length_cons, List.length_nil, Nat.reduceAdd, Nat.reduceLT]; done)) only [r49_17, r49_18, r49_19, r49_20, r49_23, ge_0 h, oGF_is, WPo_some, List.getElem?_cons_succ, List.getElem?_cons_zero, kil_n, kil_i, kil_a, kil_u, kil_l, Option.toList_some, Option.toList_none, List.cons_append, List.nil_append, List.set_cons_succ, List.set_cons_zero, addm1, Nat.reduceAdd, List.length_cons, List.length_nil, Nat.reduceLT, nI_clamp, nI_toInt, nI_leL, nI_Lle, nI_ltL, nI_Llt, nI_eqL, nI_Leq, nI_leE, nI_ltE, nI_eqE, nI_eqM, nI_add, nI_addL, nI_Ladd, nI_mulL, nI_Lmul, pk_mul, pk_sub, nI_subL, nI_Lsub, i2l_nI, Int.toNat_natCast, Nat.not_lt_zero, Nat.zero_le, ifT, ifF, not_true_eq_false, not_false_eq_true, if_true, if_false, or_self, and_self, true_and, and_true, or_true, true_or, false_or, or_false, false_and, and_false]
    exact K
  | k + 1, x, fg, F, Z, h8, hk, hF => by
    by_cases hx : x + 1 < ax
    · have c1 := c_addNext (c := c) (S := S) (al := al) (ms := ms) (tu := tu) (el := el) (ei := iu (iu ei 8 F) 10 Z) (r := r) (f := fg x) (g := fg (x + 1)) (jm := jm x) (sk := sk x) h ha hw hw1 hx (fun w z => by simp only [iu_ne (show ¬ 6 = 10 by decide), iu_ne (show ¬ 6 = 8 by decide)]; exact hr w z) (fun w z => by simp only [iu_ne (show ¬ 8 = 10 by decide), iu_at]; exact hF x w (by omega) z) (fun w z => by simp only [iu_ne (show ¬ 8 = 10 by decide), iu_at]; have := hF (x + 1) w hx z; rw [Nat.succ_mul] at this; exact this) (fun w z => by simp only [iu_ne (show ¬ 9 = 10 by decide), iu_ne (show ¬ 9 = 8 by decide)]; exact hT x w (by omega) z)
      simp only [iu_ne (show ¬ 8 = 10 by decide), iu_at] at c1
      rw [iu_c (by decide), iu_c (k := 8) (j := 10) (by decide)] at c1
      obtain ⟨F', Z', l1, a1, a2⟩ := l_ev h ha hw hw1 hr hT k (x + 2) (addAx r jm sk x fg) (ovr F (x * wh) wh (fun w => nI (f2A r (fg x) (fg (x + 1)) (jm x) (sk x) w))) (ovr Z 0 wh (fun w => bI (cyA r (fg x) (fg (x + 1)) (jm x) (sk x) w))) (by omega) (by omega) (addAx_R hx hF)
      refine ⟨F', Z', l1, ?_, fun Q K => ?_⟩
      · simp only [adS, hx, if_true]
        exact a1
      · rw [r49_16]
        simp (disch := first | assumption | omega | decide | (simp only [List.length_cons, List.length_nil, Nat.reduceAdd, Nat.reduceLT]; done)) only [r49_17, r49_18, r49_19, r49_20, r49_23, r49_26, r49_27, r49_31, r49_34, ge_0 h, oGF_is, WPo_some, List.getElem?_cons_succ, List.getElem?_cons_zero, kil_n, kil_i, kil_a, kil_u, kil_l, Option.toList_some, Option.toList_none, List.cons_append, List.nil_append, List.set_cons_succ, List.set_cons_zero, addm1, Nat.reduceAdd, List.length_cons, List.length_nil, Nat.reduceLT, nI_clamp, nI_toInt, nI_leL, nI_Lle, nI_ltL, nI_Llt, nI_eqL, nI_Leq, nI_leE, nI_ltE, nI_eqE, nI_eqM, nI_add, nI_addL, nI_Ladd, nI_mulL, nI_Lmul, pk_mul, pk_sub, nI_subL, nI_Lsub, i2l_nI, Int.toNat_natCast, Nat.not_lt_zero, Nat.zero_le, ifT, ifF, not_true_eq_false, not_false_eq_true, if_true, if_false, or_self, and_self, true_and, and_true, or_true, true_or, false_or, or_false, false_and, and_false, q49_28 c1 h.ci]
        exact a2 Q K
    · refine ⟨F, Z, some (.int (nI x)), ?_, fun Q K => ?_⟩
      · simp only [adS, hx, if_false]
        exact hF
      · rw [r49_16]
        simp (disch := first | assumption | omega | decide | (simp only [List.length_cons, List.length_nil, Nat.reduceAdd, Nat.reduceLT]; done)) only [r49_17, r49_18, r49_19, r49_20, r49_23, ge_0 h, oGF_is, WPo_some, List.getElem?_cons_succ, List.getElem?_cons_zero, kil_n, kil_i, kil_a, kil_u, kil_l, Option.toList_some, Option.toList_none, List.cons_append, List.nil_append, List.set_cons_succ, List.set_cons_zero, addm1, Nat.reduceAdd, List.length_cons, List.length_nil, Nat.reduceLT, nI_clamp, nI_toInt, nI_leL, nI_Lle, nI_ltL, nI_Llt, nI_eqL, nI_Leq, nI_leE, nI_ltE, nI_eqE, nI_eqM, nI_add, nI_addL, nI_Ladd, nI_mulL, nI_Lmul, pk_mul, pk_sub, nI_subL, nI_Lsub, i2l_nI, Int.toNat_natCast, Nat.not_lt_zero, Nat.zero_le, ifT, ifF, not_true_eq_false, not_false_eq_true, if_true, if_false, or_self, and_self, true_and, and_true, or_true, true_or, false_or, or_false, false_and, and_false]
        exact K
theorem l_od (h : XB E ah A b) (ha : ax ≤ 7) (hw : wh ≤ 12) (hw1 : 1 ≤ wh) {r : Nat → Nat} {jm sk : Nat → Nat → Bool} (hr : ∀ w, w < wh → ei 6 w = nI (r w) ∧ r w ≤ 12) (hT : ∀ x w, x < ax → w < wh → ei 9 (x * wh + w) = tv (sk x w) (jm x w)) : ∀ k x fg F Z, x ≤ 8 → ax ≤ x + 2 * k → (∀ y w, y < ax → w < wh → F (y * wh + w) = nI (fg y w) ∧ fg y w < r w) → ∃ F' Z' l1, (∀ y w, y < ax → w < wh → F' (y * wh + w) = nI (adS ax r jm sk k x fg y w) ∧ adS ax r jm sk k x fg y w < r w) ∧ (∀ Q, WP E (c + 2) 49 60 [some (.ref (A b)), l1] [] (oh E ah A (eSt A S b ax wh al ms tu (iu (iu ei 8 F') 10 Z') el)) Q → WP E (c + 2) 49 39 [some (.ref (A b)), some (.int (nI x))] [] (oh E ah A (eSt A S b ax wh al ms tu (iu (iu ei 8 F) 10 Z) el)) Q)
  | 0, x, fg, F, Z, h8, hk, hF => by
    refine ⟨F, Z, some (.int (nI x)), hF, fun Q K => ?_⟩
    rw [r49_39]
    simp (disch := first | assumption | omega | decide | (simp only [List.length_cons, List.length_nil, Nat.reduceAdd, Nat.reduceLT]; done)) only [r49_40, r49_41, r49_42, r49_43, r49_46, ge_0 h, oGF_is, WPo_some, List.getElem?_cons_succ, List.getElem?_cons_zero, kil_n, kil_i, kil_a, kil_u, kil_l, Option.toList_some, Option.toList_none, List.cons_append, List.nil_append, List.set_cons_succ, List.set_cons_zero, addm1, Nat.reduceAdd, List.length_cons, List.length_nil, Nat.reduceLT, nI_clamp, nI_toInt, nI_leL, nI_Lle, nI_ltL, nI_Llt, nI_eqL, nI_Leq, nI_leE, nI_ltE, nI_eqE, nI_eqM, nI_add, nI_addL, nI_Ladd, nI_mulL, nI_Lmul, pk_mul, pk_sub, nI_subL, nI_Lsub, i2l_nI, Int.toNat_natCast, Nat.not_lt_zero, Nat.zero_le, ifT, ifF, not_true_eq_false, not_false_eq_true, if_true, if_false, or_self, and_self, true_and, and_true, or_true, true_or, false_or, or_false, false_and, and_false]
    exact K
  | k + 1, x, fg, F, Z, h8, hk, hF => by
    by_cases hx : x + 1 < ax
    · have c1 := c_addNext (c := c) (S := S) (al := al) (ms := ms) (tu := tu) (el := el) (ei := iu (iu ei 8 F) 10 Z) (r := r) (f := fg x) (g := fg (x + 1)) (jm := jm x) (sk := sk x) h ha hw hw1 hx (fun w z => by simp only [iu_ne (show ¬ 6 = 10 by decide), iu_ne (show ¬ 6 = 8 by decide)]; exact hr w z) (fun w z => by simp only [iu_ne (show ¬ 8 = 10 by decide), iu_at]; exact hF x w (by omega) z) (fun w z => by simp only [iu_ne (show ¬ 8 = 10 by decide), iu_at]; have := hF (x + 1) w hx z; rw [Nat.succ_mul] at this; exact this) (fun w z => by simp only [iu_ne (show ¬ 9 = 10 by decide), iu_ne (show ¬ 9 = 8 by decide)]; exact hT x w (by omega) z)
      simp only [iu_ne (show ¬ 8 = 10 by decide), iu_at] at c1
      rw [iu_c (by decide), iu_c (k := 8) (j := 10) (by decide)] at c1
      obtain ⟨F', Z', l1, a1, a2⟩ := l_od h ha hw hw1 hr hT k (x + 2) (addAx r jm sk x fg) (ovr F (x * wh) wh (fun w => nI (f2A r (fg x) (fg (x + 1)) (jm x) (sk x) w))) (ovr Z 0 wh (fun w => bI (cyA r (fg x) (fg (x + 1)) (jm x) (sk x) w))) (by omega) (by omega) (addAx_R hx hF)
      refine ⟨F', Z', l1, ?_, fun Q K => ?_⟩
      · simp only [adS, hx, if_true]
        exact a1
      · rw [r49_39]
        simp (disch := first | assumption | omega | decide | (simp only [List.length_cons, List.length_nil, Nat.reduceAdd, Nat.reduceLT]; done)) only [r49_40, r49_41, r49_42, r49_43, r49_46, r49_49, r49_50, r49_54, r49_57, ge_0 h, oGF_is, WPo_some, List.getElem?_cons_succ, List.getElem?_cons_zero, kil_n, kil_i, kil_a, kil_u, kil_l, Option.toList_some, Option.toList_none, List.cons_append, List.nil_append, List.set_cons_succ, List.set_cons_zero, addm1, Nat.reduceAdd, List.length_cons, List.length_nil, Nat.reduceLT, nI_clamp, nI_toInt, nI_leL, nI_Lle, nI_ltL, nI_Llt, nI_eqL, nI_Leq, nI_leE, nI_ltE, nI_eqE, nI_eqM, nI_add, nI_addL, nI_Ladd, nI_mulL, nI_Lmul, pk_mul, pk_sub, nI_subL, nI_Lsub, i2l_nI, Int.toNat_natCast, Nat.not_lt_zero, Nat.zero_le, ifT, ifF, not_true_eq_false, not_false_eq_true, if_true, if_false, or_self, and_self, true_and, and_true, or_true, true_or, false_or, or_false, false_and, and_false, q49_51 c1 h.ci]
        exact a2 Q K
    · refine ⟨F, Z, some (.int (nI x)), ?_, fun Q K => ?_⟩
      · simp only [adS, hx, if_false]
        exact hF
      · rw [r49_39]
        simp (disch := first | assumption | omega | decide | (simp only [List.length_cons, List.length_nil, Nat.reduceAdd, Nat.reduceLT]; done)) only [r49_40, r49_41, r49_42, r49_43, r49_46, ge_0 h, oGF_is, WPo_some, List.getElem?_cons_succ, List.getElem?_cons_zero, kil_n, kil_i, kil_a, kil_u, kil_l, Option.toList_some, Option.toList_none, List.cons_append, List.nil_append, List.set_cons_succ, List.set_cons_zero, addm1, Nat.reduceAdd, List.length_cons, List.length_nil, Nat.reduceLT, nI_clamp, nI_toInt, nI_leL, nI_Lle, nI_ltL, nI_Llt, nI_eqL, nI_Leq, nI_leE, nI_ltE, nI_eqE, nI_eqM, nI_add, nI_addL, nI_Ladd, nI_mulL, nI_Lmul, pk_mul, pk_sub, nI_subL, nI_Lsub, i2l_nI, Int.toNat_natCast, Nat.not_lt_zero, Nat.zero_le, ifT, ifF, not_true_eq_false, not_false_eq_true, if_true, if_false, or_self, and_self, true_and, and_true, or_true, true_or, false_or, or_false, false_and, and_false]
        exact K
theorem c_turnOnce (h : XB E ah A b) {r : Nat → Nat} {fg : Nat → Nat → Nat} (hg : egR ax wh r fg mq n ei el) (ht : t < 1000) : ∃ ei', egR ax wh r (trn ax r mq n (t + 1) fg) mq n ei' el ∧ EV E (c + 3) 49 [.ref (A b)] (oh E ah A (eSt A S b ax wh al (nI n) (nI t) ei el)) none (oh E ah A (eSt A S b ax wh al (nI n) (nI (t + 1)) ei' el)) := by
  obtain ⟨⟨g1, g2, g3, g4⟩, hr, hW, hF, hT, hm⟩ := hg
  obtain ⟨T', t1, t2⟩ := c_mark (E := E) (c := c + 2) (S := S) (al := al) (el := el) h g2 g4 (show t + 1 ≤ 1000 by omega) hm hT
  have hr' : ∀ w, w < wh → iu ei 9 T' 6 w = nI (r w) ∧ r w ≤ 12 := fun w hw => ⟨by rw [iu_ne (by decide)]; exact (hr w hw).1, (hr w hw).2.2⟩
  have hT' : ∀ x w, x < ax → w < wh → iu ei 9 T' 9 (x * wh + w) = tv (decide (0 < cn mq (t + 1) x w 1 n)) (decide (0 < cn mq (t + 1) x w 2 n)) := fun x w hx hw => by rw [iu_at]; exact t1 x w hx hw
  obtain ⟨F1, Z1, l1, f1, f2⟩ := l_ev (E := E) (c := c + 1) (S := S) (al := al) (ms := nI n) (tu := nI (t + 1)) (el := el) (ei := iu ei 9 T') (jm := fun x w => decide (0 < cn mq (t + 1) x w 2 n)) (sk := fun x w => decide (0 < cn mq (t + 1) x w 1 n)) h g2 g4 g3 hr' hT' 4 0 fg (ei 8) (ei 10) (by omega) (by omega) hF
  obtain ⟨F2, Z2, l2, f3, f4⟩ := l_od (E := E) (c := c + 1) (S := S) (al := al) (ms := nI n) (tu := nI (t + 1)) (el := el) (ei := iu ei 9 T') (jm := fun x w => decide (0 < cn mq (t + 1) x w 2 n)) (sk := fun x w => decide (0 < cn mq (t + 1) x w 1 n)) h g2 g4 g3 hr' hT' 4 1 _ F1 Z1 (by omega) (by omega) f1
  have hm2 : mqR ax wh (iu ei 10 Z2) mq n := mqR_iu hm (by decide)
  have hr2 : ∀ w, w < wh → iu ei 10 Z2 6 w = nI (r w) ∧ 1 ≤ r w ∧ r w ≤ 12 := fun w hw => by
    have := hr w hw
    exact ⟨by rw [iu_ne (by decide)]; exact this.1, by omega, this.2.2⟩
  obtain ⟨F3, T3, s1, s2, s3⟩ := l_slip (E := E) (c := c + 2) (S := S) (al := al) (t := t + 1) (el := el) h g2 g4 (by omega) hm2 hr2 (fun x w hx hw => (f3 x w hx hw).2) n 0 F2 T' (by omega) (fun x w hx hw => by simp only [cn, dcN]; exact (f3 x w hx hw).1) (fun x w hx hw => by simp only [hA, Bool.false_eq_true, if_false]; exact t1 x w hx hw) none
  refine ⟨iu (iu (iu ei 10 Z2) 8 F3) 9 T3, ⟨⟨g1, g2, g3, g4⟩, ?_, hW, ?_, ?_, ?_⟩, e49 ?_⟩
  · intro w hw
    rw [iu_ne (by decide), iu_ne (by decide), iu_ne (by decide)]
    exact hr w hw
  · intro x w hx hw
    rw [iu_ne (by decide), iu_at, s1 x w hx hw]
    exact ⟨rfl, dcN_lt (f3 x w hx hw).2 _⟩
  · intro x w hx hw
    rw [iu_at]
    exact s2 x w hx hw
  · exact mqR_iu (mqR_iu hm2 (by decide)) (by decide)
  · have q53 : EV E (c + 2) 53 [.ref (A b)] (oh E ah A (eSt A S b ax wh al (nI n) (nI (t + 1)) (iu (iu (iu ei 9 T') 8 F2) 10 Z2) el)) none (oh E ah A (eSt A S b ax wh al (nI n) (nI (t + 1)) (iu (iu (iu ei 10 Z2) 8 F3) 9 T3) el)) := by
      refine e53 ?_
      have e1 : iu (iu (iu ei 9 T') 8 F2) 10 Z2 = iu (iu (iu ei 10 Z2) 8 F2) 9 T' := by
        funext j
        unfold iu
        by_cases h1 : j = 8
        · subst h1
          simp
        · by_cases h2 : j = 9
          · subst h2
            simp
          · by_cases h3 : j = 10
            · subst h3
              simp
            · simp [h1, h2, h3]
      rw [e1]
      simp only [r53_0, r53_1, oGF_is, WPo_some, List.getElem?_cons_succ, List.getElem?_cons_zero, kil_n, kil_i, kil_a, kil_u, kil_l, Option.toList_some, Option.toList_none, List.cons_append, List.nil_append, List.set_cons_succ, List.set_cons_zero, addm1, Nat.reduceAdd, List.length_cons, List.length_nil, Nat.reduceLT]
      exact s3
    have e0 : iu ei 9 T' = iu (iu (iu ei 9 T') 8 (ei 8)) 10 (ei 10) := by
      rw [iu_same (v := iu (iu ei 9 T') 8 (ei 8)) (k := 10) (by simp [iu]), iu_same (v := iu ei 9 T') (k := 8) (by simp [iu])]
    simp (disch := first | assumption | omega | decide | (simp only [List.length_cons, List.length_nil, Nat.reduceAdd, Nat.reduceLT]; done)) only [r49_0, r49_1, r49_1i, r49_2, r49_5, r49_6, r49_7, r49_10, r49_14, r49_15, ge_0 h, oGF_is, WPo_some, List.getElem?_cons_succ, List.getElem?_cons_zero, kil_n, kil_i, kil_a, kil_u, kil_l, Option.toList_some, Option.toList_none, List.cons_append, List.nil_append, List.set_cons_succ, List.set_cons_zero, addm1, Nat.reduceAdd, List.length_cons, List.length_nil, Nat.reduceLT, nI_clamp, nI_toInt, nI_leL, nI_Lle, nI_ltL, nI_Llt, nI_eqL, nI_Leq, nI_leE, nI_ltE, nI_eqE, nI_eqM, nI_add, nI_addL, nI_Ladd, nI_mulL, nI_Lmul, pk_mul, pk_sub, nI_subL, nI_Lsub, i2l_nI, Int.toNat_natCast, Nat.not_lt_zero, Nat.zero_le, ifT, ifF, not_true_eq_false, not_false_eq_true, if_true, if_false, or_self, and_self, true_and, and_true, or_true, true_or, false_or, or_false, false_and, and_false, pf_2140, se_0 h, q49_11 t2 h.ci]
    rw [e0]
    apply f2
    simp (disch := first | assumption | omega | decide | (simp only [List.length_cons, List.length_nil, Nat.reduceAdd, Nat.reduceLT]; done)) only [r49_37, r49_38, oGF_is, WPo_some, List.getElem?_cons_succ, List.getElem?_cons_zero, kil_n, kil_i, kil_a, kil_u, kil_l, Option.toList_some, Option.toList_none, List.cons_append, List.nil_append, List.set_cons_succ, List.set_cons_zero, addm1, Nat.reduceAdd, List.length_cons, List.length_nil, Nat.reduceLT]
    apply f4
    simp (disch := first | assumption | omega | decide | (simp only [List.length_cons, List.length_nil, Nat.reduceAdd, Nat.reduceLT]; done)) only [r49_60, r49_64, oGF_is, WPo_some, List.getElem?_cons_succ, List.getElem?_cons_zero, kil_n, kil_i, kil_a, kil_u, kil_l, Option.toList_some, Option.toList_none, List.cons_append, List.nil_append, List.set_cons_succ, List.set_cons_zero, addm1, Nat.reduceAdd, List.length_cons, List.length_nil, Nat.reduceLT, q49_61 q53 h.ci, not_true_eq_false, not_false_eq_true, if_true, if_false, or_self, and_self, true_and, and_true, or_true, true_or, false_or, or_false, false_and, and_false]
end TUY

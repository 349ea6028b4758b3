/-! Errata of the class: differences, rough places, bounds -/
noncomputable def smN (k : Nat) (V : Nat → Int) (t : Nat) : Nat → Int
  | 0 => 0
  | s + 1 => smN k V t s + fac k (s : Int) * V (t + s)
theorem smN_df {k : Nat} (h1 : 1 ≤ k) (h4 : k ≤ 4) {V : Nat → Int} {t : Nat} : smN k V t (k + 1) = df k V t := by
  have f := fun j hj => (fac_in (k := k) (j := j) h1 h4 hj).1
  rcases (show k = 1 ∨ k = 2 ∨ k = 3 ∨ k = 4 by omega) with rfl | rfl | rfl | rfl
  · simp only [smN, df_1]
    rw [f 0 (by decide), f 1 (by decide)]
    simp [chL]
    omega
  · simp only [smN, df_2]
    rw [f 0 (by decide), f 1 (by decide), f 2 (by decide)]
    simp [chL]
    omega
  · simp only [smN, df_3]
    rw [f 0 (by decide), f 1 (by decide), f 2 (by decide), f 3 (by decide)]
    simp [chL]
    omega
  · simp only [smN, df_4]
    rw [f 0 (by decide), f 1 (by decide), f 2 (by decide), f 3 (by decide), f 4 (by decide)]
    simp [chL]
    omega
theorem ii_sub {i t : Nat} (hi : i < 2 ^ 30) (ht : t < 2 ^ 30) : (nI i - nI t).toInt = (i : Int) - t := by
  rw [Int32.toInt_sub, nI_toInt (by omega), nI_toInt (by omega), Int.bmod_eq_of_le (by omega) (by omega)]
noncomputable def onI (o : Option Nat) : Int32 := match o with
  | none => -1
  | some i => nI i
noncomputable def fre (k : Nat) (o : Option Nat) (t : Nat) : Prop := match o with
  | none => True
  | some i => i < t ∨ t + k < i
noncomputable def Rgh (n k b : Nat) (F : Nat → Int) (o1 o2 : Option Nat) : Prop := ∃ t, t + k < n ∧ fre k o1 t ∧ fre k o2 t ∧ b < (F t).natAbs
section EX2
variable {E : aEnv} {c : Nat} {ah : aHp} {A : Nat → Nat} {S : Nat → aE} {fn : Int32} {lo hi : Int64} {vl oc wi sh : Nat → Int32} {dl : Nat → Int64} {OP : Nat → Nat → Int32} {n k b : Nat} {V : Nat → Nat}
theorem l_fdS (hO : XO E ah A) (hE : ErE E) (h1 : 1 ≤ k) (h4 : k ≤ 4) (hn : n ≤ 20) (hV : ∀ i, i < n → vl i = nI (V i) ∧ V i ≤ 99999999) {t : Nat} (ht : t + k < n) {Q : Option Value → aHp → Prop} (K : WP E (c + 1) 58 55 [some (.ref (A 19)), some (.int (nI t)), some (.long (iL (df k (fun i => (V i : Int)) t))), none, some (.int (nI (k + 1)))] [] (oh E ah A (eS A S fn (nI n) (nI k) (nI b) lo hi vl oc wi sh dl OP)) Q) : ∀ z s, s + z = k + 1 → WP E (c + 1) 58 20 [some (.ref (A 19)), some (.int (nI t)), some (.long (iL (smN k (fun i => (V i : Int)) t s))), none, some (.int (nI s))] [] (oh E ah A (eS A S fn (nI n) (nI k) (nI b) lo hi vl oc wi sh dl OP)) Q
  | 0, s, hz => by
    rw [show s = k + 1 by omega, smN_df h1 h4, r58_20]
    simp (disch := first | assumption | omega | decide | (simp only [List.length_cons, List.length_nil, Nat.reduceAdd, Nat.reduceLT]; done) | fail) only [r58_22, r58_23, r58_26, hr19 hO, oGF_is, WPo_some, List.getElem?_cons_succ, List.getElem?_cons_zero, kil_n, kil_i, kil_a, kil_u, kil_l, Option.toList_some, Option.toList_none, List.cons_append, List.nil_append, List.set_cons_succ, List.set_cons_zero, addm1, Nat.reduceAdd, List.length_cons, List.length_nil, Nat.reduceLT, nI_clamp, nI_toInt, nI_leL, nI_Lle, nI_ltL, nI_Llt, nI_eqL, nI_Leq, nI_leE, nI_ltE, nI_eqE, nI_eqM, nI_add, nI_addL, nI_Ladd, nI_mulL, nI_Lmul, pk_mul, pk_sub, nI_subL, nI_Lsub, i2l_nI, Int.toNat_natCast, Nat.not_lt_zero, Nat.zero_le, ifT, ifF, not_true_eq_false, not_false_eq_true, if_true, if_false, or_self, and_self, true_and, and_true, or_true, true_or, false_or, or_false, false_and, and_false]
    exact K
  | z + 1, s, hz => by
    have ih := l_fdS hO hE h1 h4 hn hV ht K z (s + 1) (by omega)
    obtain ⟨v1, v2⟩ := hV (t + s) (by omega)
    have kf := c_factor (E := E) (c := c) (S := S) (fn := fn) (mn := nI n) (bd := nI b) (lo := lo) (hi := hi) (vl := vl) (oc := oc) (wi := wi) (sh := sh) (dl := dl) (OP := OP) hO hE h1 h4 rfl (s := nI s)
    rw [nI_toInt (show s < 2 ^ 31 by omega)] at kf
    have e1 : iL (smN k (fun i => (V i : Int)) t s) + iL (fac k (s : Int)) * (nI (V (t + s))).toInt64 = iL (smN k (fun i => (V i : Int)) t (s + 1)) := by
      rw [iL_nI (by omega), iL_mul, iL_add]
      rfl
    rw [r58_20]
    simp (disch := first | assumption | omega | decide | (simp only [List.length_cons, List.length_nil, Nat.reduceAdd, Nat.reduceLT]; done) | fail) only [r58_22, r58_23, r58_26, r58_29, r58_30, r58_31, r58_36, r58_37, r58_40, r58_41, r58_43, r58_44, r58_45, r58_46, r58_47, r58_48, r58_49, r58_52, hr19 hO, hr20 hO, gI, v1, q58_33 kf (er_ci hO), e1, oGF_is, WPo_some, List.getElem?_cons_succ, List.getElem?_cons_zero, kil_n, kil_i, kil_a, kil_u, kil_l, Option.toList_some, Option.toList_none, List.cons_append, List.nil_append, List.set_cons_succ, List.set_cons_zero, addm1, Nat.reduceAdd, List.length_cons, List.length_nil, Nat.reduceLT, nI_clamp, nI_toInt, nI_leL, nI_Lle, nI_ltL, nI_Llt, nI_eqL, nI_Leq, nI_leE, nI_ltE, nI_eqE, nI_eqM, nI_add, nI_addL, nI_Ladd, nI_mulL, nI_Lmul, pk_mul, pk_sub, nI_subL, nI_Lsub, i2l_nI, Int.toNat_natCast, Nat.not_lt_zero, Nat.zero_le, ifT, ifF, not_true_eq_false, not_false_eq_true, if_true, if_false, or_self, and_self, true_and, and_true, or_true, true_or, false_or, or_false, false_and, and_false]
    exact ih
theorem c_findDiff (hO : XO E ah A) (hE : ErE E) (h1 : 1 ≤ k) (h4 : k ≤ 4) (hn : n ≤ 20) (hV : ∀ i, i < n → vl i = nI (V i) ∧ V i ≤ 99999999) (hkn : k < n) : EV E (c + 1) 58 [.ref (A 19)] (oh E ah A (eS A S fn (nI n) (nI k) (nI b) lo hi vl oc wi sh dl OP)) none (oh E ah A (eS A S fn (nI n) (nI k) (nI b) lo hi vl oc wi sh (ovr dl 0 (n - k) (fun t => iL (df k (fun i => (V i : Int)) t))) OP)) := by
  have loop : ∀ z t l2 l4, t + z = n - k → WP E (c + 1) 58 2 [some (.ref (A 19)), some (.int (nI t)), l2, none, l4] [] (oh E ah A (eS A S fn (nI n) (nI k) (nI b) lo hi vl oc wi sh (ovr dl 0 t (fun t => iL (df k (fun i => (V i : Int)) t))) OP)) (fun r x => r = none ∧ x = oh E ah A (eS A S fn (nI n) (nI k) (nI b) lo hi vl oc wi sh (ovr dl 0 (n - k) (fun t => iL (df k (fun i => (V i : Int)) t))) OP)) := by
    intro z
    induction z with
    | zero =>
      intro t l2 l4 hz
      rw [show t = n - k by omega, r58_2]
      simp (disch := first | assumption | omega | decide | (simp only [List.length_cons, List.length_nil, Nat.reduceAdd, Nat.reduceLT]; done) | fail) only [r58_3, r58_4, r58_7, r58_8, r58_9, r58_12, r58_68, hr19 hO, oGF_is, WPo_some, List.getElem?_cons_succ, List.getElem?_cons_zero, kil_n, kil_i, kil_a, kil_u, kil_l, Option.toList_some, Option.toList_none, List.cons_append, List.nil_append, List.set_cons_succ, List.set_cons_zero, addm1, Nat.reduceAdd, List.length_cons, List.length_nil, Nat.reduceLT, nI_clamp, nI_toInt, nI_leL, nI_Lle, nI_ltL, nI_Llt, nI_eqL, nI_Leq, nI_leE, nI_ltE, nI_eqE, nI_eqM, nI_add, nI_addL, nI_Ladd, nI_mulL, nI_Lmul, pk_mul, pk_sub, nI_subL, nI_Lsub, i2l_nI, Int.toNat_natCast, Nat.not_lt_zero, Nat.zero_le, ifT, ifF, not_true_eq_false, not_false_eq_true, if_true, if_false, or_self, and_self, true_and, and_true, or_true, true_or, false_or, or_false, false_and, and_false]
    | succ z ih =>
      intro t l2 l4 hz
      have m2 := vupd_ovr (F := dl) (i := t) (h := fun t => iL (df k (fun i => (V i : Int)) t)) (x := iL (df k (fun i => (V i : Int)) t)) rfl
      have l := l_fdS (c := c) (fn := fn) (lo := lo) (hi := hi) (oc := oc) (wi := wi) (sh := sh) (dl := ovr dl 0 t (fun t => iL (df k (fun i => (V i : Int)) t))) (OP := OP) (b := b) (S := S) hO hE h1 h4 hn hV (show t + k < n by omega) (Q := fun r x => r = none ∧ x = oh E ah A (eS A S fn (nI n) (nI k) (nI b) lo hi vl oc wi sh (ovr dl 0 (n - k) (fun t => iL (df k (fun i => (V i : Int)) t))) OP)) (by
        have ih := ih (t + 1) (some (.long (iL (df k (fun i => (V i : Int)) t)))) (some (.int (nI (k + 1)))) (by omega)
        simp (disch := first | assumption | omega | decide | (simp only [List.length_cons, List.length_nil, Nat.reduceAdd, Nat.reduceLT]; done) | fail) only [r58_55, r58_56, r58_59, r58_60, r58_61, r58_62, r58_65, hr19 hO, hr21 hO, sr21 hO, pL, m2, oGF_is, WPo_some, List.getElem?_cons_succ, List.getElem?_cons_zero, kil_n, kil_i, kil_a, kil_u, kil_l, Option.toList_some, Option.toList_none, List.cons_append, List.nil_append, List.set_cons_succ, List.set_cons_zero, addm1, Nat.reduceAdd, List.length_cons, List.length_nil, Nat.reduceLT, nI_clamp, nI_toInt, nI_leL, nI_Lle, nI_ltL, nI_Llt, nI_eqL, nI_Leq, nI_leE, nI_ltE, nI_eqE, nI_eqM, nI_add, nI_addL, nI_Ladd, nI_mulL, nI_Lmul, pk_mul, pk_sub, nI_subL, nI_Lsub, i2l_nI, Int.toNat_natCast, Nat.not_lt_zero, Nat.zero_le, ifT, ifF, not_true_eq_false, not_false_eq_true, if_true, if_false, or_self, and_self, true_and, and_true, or_true, true_or, false_or, or_false, false_and, and_false]
        exact ih) (k + 1) 0 (by omega)
      rw [r58_2]
      simp (disch := first | assumption | omega | decide | (simp only [List.length_cons, List.length_nil, Nat.reduceAdd, Nat.reduceLT]; done) | fail) only [r58_3, r58_4, r58_7, r58_8, r58_9, r58_12, r58_15, r58_16, r58_17, r58_18, hr19 hO, oGF_is, WPo_some, List.getElem?_cons_succ, List.getElem?_cons_zero, kil_n, kil_i, kil_a, kil_u, kil_l, Option.toList_some, Option.toList_none, List.cons_append, List.nil_append, List.set_cons_succ, List.set_cons_zero, addm1, Nat.reduceAdd, List.length_cons, List.length_nil, Nat.reduceLT, nI_clamp, nI_toInt, nI_leL, nI_Lle, nI_ltL, nI_Llt, nI_eqL, nI_Leq, nI_leE, nI_ltE, nI_eqE, nI_eqM, nI_add, nI_addL, nI_Ladd, nI_mulL, nI_Lmul, pk_mul, pk_sub, nI_subL, nI_Lsub, i2l_nI, Int.toNat_natCast, Nat.not_lt_zero, Nat.zero_le, ifT, ifF, not_true_eq_false, not_false_eq_true, if_true, if_false, or_self, and_self, true_and, and_true, or_true, true_or, false_or, or_false, false_and, and_false]
      exact l
  refine e58 ?_
  have l := loop (n - k) 0 none none (by omega)
  rw [ovr_0] at l
  simp (disch := first | assumption | omega | decide | (simp only [List.length_cons, List.length_nil, Nat.reduceAdd, Nat.reduceLT]; done) | fail) only [r58_0, r58_1, oGF_is, WPo_some, List.getElem?_cons_succ, List.getElem?_cons_zero, kil_n, kil_i, kil_a, kil_u, kil_l, Option.toList_some, Option.toList_none, List.cons_append, List.nil_append, List.set_cons_succ, List.set_cons_zero, addm1, Nat.reduceAdd, List.length_cons, List.length_nil, Nat.reduceLT]
  exact l
theorem c_rough (hO : XO E ah A) (hE : ErE E) (h1 : 1 ≤ k) (h4 : k ≤ 4) (hn : n ≤ 20) (hb : b ≤ 1000) {F : Nat → Int} (hF : ∀ t, t + k < n → dl t = iL (F t) ∧ (F t).natAbs ≤ 1600000000) {o1 o2 : Option Nat} (ho1 : ∀ i, o1 = some i → i < 20) (ho2 : ∀ i, o2 = some i → i < 20) : ∃ r, EV E (c + 1) 60 [.ref (A 19), .int (onI o1), .int (onI o2)] (oh E ah A (eS A S fn (nI n) (nI k) (nI b) lo hi vl oc wi sh dl OP)) (some (.int r)) (oh E ah A (eS A S fn (nI n) (nI k) (nI b) lo hi vl oc wi sh dl OP)) ∧ ((r = 1 ∧ Rgh n k b F o1 o2) ∨ (r = 0 ∧ ¬ Rgh n k b F o1 o2)) := by
  -- whether a difference is free of a value
  have free : ∀ (o : Option Nat) t, (∀ i, o = some i → i < 20) → t < 20 → (onI o = -1 ∨ iL (fac k (onI o - nI t).toInt) = 0) = fre k o t := by
    intro o t ho ht
    cases o with
    | none => simp [onI, fre]
    | some i =>
      have hi := ho i rfl
      show (nI i = -1 ∨ iL (fac k (nI i - nI t).toInt) = 0) = (i < t ∨ t + k < i)
      rw [ii_sub (by omega) (by omega), nI_eqM (by omega), false_or, iL_0, iL_eq (by have := fac_le (s := (i : Int) - t) h1 h4; omega) (by have := fac_le (s := (i : Int) - t) h1 h4; omega) (by omega) (by omega), fac_0 h1 h4]
      apply propext
      omega
  have kf := fun (o : Option Nat) (t : Nat) => c_factor (E := E) (c := c) (S := S) (fn := fn) (mn := nI n) (bd := nI b) (lo := lo) (hi := hi) (vl := vl) (oc := oc) (wi := wi) (sh := sh) (dl := dl) (OP := OP) hO hE h1 h4 rfl (s := onI o - nI t)
  have loop : ∀ z t l4, t + z = n - k → (∀ q, q < t → ¬ (q + k < n ∧ fre k o1 q ∧ fre k o2 q ∧ b < (F q).natAbs)) → ∃ r, WP E (c + 1) 60 2 [some (.ref (A 19)), some (.int (onI o1)), some (.int (onI o2)), some (.int (nI t)), l4] [] (oh E ah A (eS A S fn (nI n) (nI k) (nI b) lo hi vl oc wi sh dl OP)) (fun r1 x => r1 = some (.int r) ∧ x = oh E ah A (eS A S fn (nI n) (nI k) (nI b) lo hi vl oc wi sh dl OP)) ∧ ((r = 1 ∧ Rgh n k b F o1 o2) ∨ (r = 0 ∧ ¬ Rgh n k b F o1 o2)) := by
    intro z
    induction z with
    | zero =>
      intro t l4 hz hq
      refine ⟨0, ?_, Or.inr ⟨rfl, ?_⟩⟩
      · rw [r60_2]
        simp (disch := first | assumption | omega | decide | (simp only [List.length_cons, List.length_nil, Nat.reduceAdd, Nat.reduceLT]; done) | fail) only [r60_3, r60_4, r60_7, r60_8, r60_9, r60_12, r60_100, r60_101 (x := 0) (Or.inl rfl), r60_101 (x := 1) (Or.inr rfl), r60_101 (b2i_or _), hr19 hO, show n ≤ t + k by omega, oGF_is, WPo_some, List.getElem?_cons_succ, List.getElem?_cons_zero, kil_n, kil_i, kil_a, kil_u, kil_l, Option.toList_some, Option.toList_none, List.cons_append, List.nil_append, List.set_cons_succ, List.set_cons_zero, addm1, Nat.reduceAdd, List.length_cons, List.length_nil, Nat.reduceLT, nI_clamp, nI_toInt, nI_leL, nI_Lle, nI_ltL, nI_Llt, nI_eqL, nI_Leq, nI_leE, nI_ltE, nI_eqE, nI_eqM, nI_add, nI_addL, nI_Ladd, nI_mulL, nI_Lmul, pk_mul, pk_sub, nI_subL, nI_Lsub, i2l_nI, Int.toNat_natCast, Nat.not_lt_zero, Nat.zero_le, ifT, ifF, not_true_eq_false, not_false_eq_true, if_true, if_false, or_self, and_self, true_and, and_true, or_true, true_or, false_or, or_false, false_and, and_false]
      · rintro ⟨q, p1, p2, p3, p4⟩
        exact hq q (by omega) ⟨p1, p2, p3, p4⟩
    | succ z ih =>
      intro t l4 hz hq
      obtain ⟨d1, d2⟩ := hF t (by omega)
      have f1 := free o1 t ho1 (by omega)
      have f2 := free o2 t ho2 (by omega)
      have eb : (nI b).toInt64 = iL b := iL_nI (by omega)
      have eb2 : (- nI b : Int32).toInt64 = iL (-(b : Int)) := by
        apply Int64.toInt_inj.mp
        rw [i2l_toInt, Int32.toInt_neg, nI_toInt (by omega), iL_toInt (by omega) (by omega), Int.bmod_eq_of_le (by omega) (by omega)]
      have c1 : (iL (b : Int) < iL (F t)) = ((b : Int) < F t) := iL_lt (by omega) (by omega) (by omega) (by omega)
      have c2 : (iL (-(b : Int)) ≤ iL (F t)) = (-(b : Int) ≤ F t) := iL_le (by omega) (by omega) (by omega) (by omega)
      have next : ¬ (fre k o1 t ∧ fre k o2 t ∧ b < (F t).natAbs) → ∀ l4, ∃ r, WP E (c + 1) 60 2 [some (.ref (A 19)), some (.int (onI o1)), some (.int (onI o2)), some (.int (nI (t + 1))), l4] [] (oh E ah A (eS A S fn (nI n) (nI k) (nI b) lo hi vl oc wi sh dl OP)) (fun r1 x => r1 = some (.int r) ∧ x = oh E ah A (eS A S fn (nI n) (nI k) (nI b) lo hi vl oc wi sh dl OP)) ∧ ((r = 1 ∧ Rgh n k b F o1 o2) ∨ (r = 0 ∧ ¬ Rgh n k b F o1 o2)) := fun hh l4 => ih (t + 1) l4 (by omega) (fun q hq' => by
        by_cases y : q = t
        · subst y
          rintro ⟨-, p⟩
          exact hh p
        · exact hq q (by omega))
      by_cases y1 : fre k o1 t
      · by_cases y2 : fre k o2 t
        · have g1 := y1
          have g2 := y2
          rw [← f1] at g1
          rw [← f2] at g2
          -- both free
          have pre : ∀ Q : Option Value → aHp → Prop, WP E (c + 1) 60 56 [some (.ref (A 19)), some (.int (onI o1)), some (.int (onI o2)), some (.int (nI t)), some (.int 1)] [] (oh E ah A (eS A S fn (nI n) (nI k) (nI b) lo hi vl oc wi sh dl OP)) Q → WP E (c + 1) 60 2 [some (.ref (A 19)), some (.int (onI o1)), some (.int (onI o2)), some (.int (nI t)), l4] [] (oh E ah A (eS A S fn (nI n) (nI k) (nI b) lo hi vl oc wi sh dl OP)) Q := by
            intro Q w
            rw [r60_2]
            by_cases m1 : onI o1 = -1
            · by_cases m2 : onI o2 = -1
              · simp (disch := first | assumption | omega | decide | (simp only [List.length_cons, List.length_nil, Nat.reduceAdd, Nat.reduceLT]; done) | fail) only [r60_3, r60_4, r60_7, r60_8, r60_9, r60_12, r60_15, r60_16, r60_17, r60_20, r60_21, r60_22, r60_23, r60_27, r60_28, r60_29, r60_32, r60_33, r60_34, r60_37, r60_38, r60_39, r60_40, r60_44, r60_45, r60_46, r60_49, r60_50, r60_53, r60_54, hr19 hO, eq_true m1, eq_true m2, show ¬ n ≤ t + k by omega, oGF_is, WPo_some, List.getElem?_cons_succ, List.getElem?_cons_zero, kil_n, kil_i, kil_a, kil_u, kil_l, Option.toList_some, Option.toList_none, List.cons_append, List.nil_append, List.set_cons_succ, List.set_cons_zero, addm1, Nat.reduceAdd, List.length_cons, List.length_nil, Nat.reduceLT, nI_clamp, nI_toInt, nI_leL, nI_Lle, nI_ltL, nI_Llt, nI_eqL, nI_Leq, nI_leE, nI_ltE, nI_eqE, nI_eqM, nI_add, nI_addL, nI_Ladd, nI_mulL, nI_Lmul, pk_mul, pk_sub, nI_subL, nI_Lsub, i2l_nI, Int.toNat_natCast, Nat.not_lt_zero, Nat.zero_le, ifT, ifF, not_true_eq_false, not_false_eq_true, if_true, if_false, or_self, and_self, true_and, and_true, or_true, true_or, false_or, or_false, false_and, and_false]
                exact w
              · have z2 : iL (fac k (onI o2 - nI t).toInt) = 0 := by rcases g2 with g | g; exact absurd g m2; exact g
                simp (disch := first | assumption | omega | decide | (simp only [List.length_cons, List.length_nil, Nat.reduceAdd, Nat.reduceLT]; done) | fail) only [r60_3, r60_4, r60_7, r60_8, r60_9, r60_12, r60_15, r60_16, r60_17, r60_20, r60_21, r60_22, r60_23, r60_27, r60_28, r60_29, r60_32, r60_33, r60_34, r60_37, r60_38, r60_39, r60_40, r60_44, r60_45, r60_46, r60_49, r60_50, r60_53, r60_54, hr19 hO, eq_true m1, m2, q60_41 (kf o2 t) (er_ci hO), lg_cmp_eq, eq_true z2, show ¬ n ≤ t + k by omega, oGF_is, WPo_some, List.getElem?_cons_succ, List.getElem?_cons_zero, kil_n, kil_i, kil_a, kil_u, kil_l, Option.toList_some, Option.toList_none, List.cons_append, List.nil_append, List.set_cons_succ, List.set_cons_zero, addm1, Nat.reduceAdd, List.length_cons, List.length_nil, Nat.reduceLT, nI_clamp, nI_toInt, nI_leL, nI_Lle, nI_ltL, nI_Llt, nI_eqL, nI_Leq, nI_leE, nI_ltE, nI_eqE, nI_eqM, nI_add, nI_addL, nI_Ladd, nI_mulL, nI_Lmul, pk_mul, pk_sub, nI_subL, nI_Lsub, i2l_nI, Int.toNat_natCast, Nat.not_lt_zero, Nat.zero_le, ifT, ifF, not_true_eq_false, not_false_eq_true, if_true, if_false, or_self, and_self, true_and, and_true, or_true, true_or, false_or, or_false, false_and, and_false]
                exact w
            · have z1 : iL (fac k (onI o1 - nI t).toInt) = 0 := by rcases g1 with g | g; exact absurd g m1; exact g
              by_cases m2 : onI o2 = -1
              · simp (disch := first | assumption | omega | decide | (simp only [List.length_cons, List.length_nil, Nat.reduceAdd, Nat.reduceLT]; done) | fail) only [r60_3, r60_4, r60_7, r60_8, r60_9, r60_12, r60_15, r60_16, r60_17, r60_20, r60_21, r60_22, r60_23, r60_27, r60_28, r60_29, r60_32, r60_33, r60_34, r60_37, r60_38, r60_39, r60_40, r60_44, r60_45, r60_46, r60_49, r60_50, r60_53, r60_54, hr19 hO, m1, eq_true m2, q60_24 (kf o1 t) (er_ci hO), lg_cmp_eq, eq_true z1, show ¬ n ≤ t + k by omega, oGF_is, WPo_some, List.getElem?_cons_succ, List.getElem?_cons_zero, kil_n, kil_i, kil_a, kil_u, kil_l, Option.toList_some, Option.toList_none, List.cons_append, List.nil_append, List.set_cons_succ, List.set_cons_zero, addm1, Nat.reduceAdd, List.length_cons, List.length_nil, Nat.reduceLT, nI_clamp, nI_toInt, nI_leL, nI_Lle, nI_ltL, nI_Llt, nI_eqL, nI_Leq, nI_leE, nI_ltE, nI_eqE, nI_eqM, nI_add, nI_addL, nI_Ladd, nI_mulL, nI_Lmul, pk_mul, pk_sub, nI_subL, nI_Lsub, i2l_nI, Int.toNat_natCast, Nat.not_lt_zero, Nat.zero_le, ifT, ifF, not_true_eq_false, not_false_eq_true, if_true, if_false, or_self, and_self, true_and, and_true, or_true, true_or, false_or, or_false, false_and, and_false]
                exact w
              · have z2 : iL (fac k (onI o2 - nI t).toInt) = 0 := by rcases g2 with g | g; exact absurd g m2; exact g
                simp (disch := first | assumption | omega | decide | (simp only [List.length_cons, List.length_nil, Nat.reduceAdd, Nat.reduceLT]; done) | fail) only [r60_3, r60_4, r60_7, r60_8, r60_9, r60_12, r60_15, r60_16, r60_17, r60_20, r60_21, r60_22, r60_23, r60_27, r60_28, r60_29, r60_32, r60_33, r60_34, r60_37, r60_38, r60_39, r60_40, r60_44, r60_45, r60_46, r60_49, r60_50, r60_53, r60_54, hr19 hO, m1, m2, q60_24 (kf o1 t) (er_ci hO), q60_41 (kf o2 t) (er_ci hO), lg_cmp_eq, eq_true z1, eq_true z2, show ¬ n ≤ t + k by omega, oGF_is, WPo_some, List.getElem?_cons_succ, List.getElem?_cons_zero, kil_n, kil_i, kil_a, kil_u, kil_l, Option.toList_some, Option.toList_none, List.cons_append, List.nil_append, List.set_cons_succ, List.set_cons_zero, addm1, Nat.reduceAdd, List.length_cons, List.length_nil, Nat.reduceLT, nI_clamp, nI_toInt, nI_leL, nI_Lle, nI_ltL, nI_Llt, nI_eqL, nI_Leq, nI_leE, nI_ltE, nI_eqE, nI_eqM, nI_add, nI_addL, nI_Ladd, nI_mulL, nI_Lmul, pk_mul, pk_sub, nI_subL, nI_Lsub, i2l_nI, Int.toNat_natCast, Nat.not_lt_zero, Nat.zero_le, ifT, ifF, not_true_eq_false, not_false_eq_true, if_true, if_false, or_self, and_self, true_and, and_true, or_true, true_or, false_or, or_false, false_and, and_false]
                exact w
          by_cases y3 : b < (F t).natAbs
          · refine ⟨1, pre _ ?_, Or.inl ⟨rfl, t, by omega, y1, y2, y3⟩⟩
            by_cases w1 : (b : Int) < F t
            · simp (disch := first | assumption | omega | decide | (simp only [List.length_cons, List.length_nil, Nat.reduceAdd, Nat.reduceLT]; done) | fail) only [r60_56, r60_58, r60_61, r60_62, r60_65, r60_66, r60_67, r60_68, r60_71, r60_72, r60_73, r60_76, r60_77, r60_80, r60_81, r60_82, r60_83, r60_86, r60_87, r60_88, r60_89, r60_92, r60_93 (x := 0) (Or.inl rfl), r60_93 (x := 1) (Or.inr rfl), r60_93 (b2i_or _), hr19 hO, hr21 hO, gL, d1, eb, lg_cmp_gt, lg_cmp_ge, c1, w1, oGF_is, WPo_some, List.getElem?_cons_succ, List.getElem?_cons_zero, kil_n, kil_i, kil_a, kil_u, kil_l, Option.toList_some, Option.toList_none, List.cons_append, List.nil_append, List.set_cons_succ, List.set_cons_zero, addm1, Nat.reduceAdd, List.length_cons, List.length_nil, Nat.reduceLT, nI_clamp, nI_toInt, nI_leL, nI_Lle, nI_ltL, nI_Llt, nI_eqL, nI_Leq, nI_leE, nI_ltE, nI_eqE, nI_eqM, nI_add, nI_addL, nI_Ladd, nI_mulL, nI_Lmul, pk_mul, pk_sub, nI_subL, nI_Lsub, i2l_nI, Int.toNat_natCast, Nat.not_lt_zero, Nat.zero_le, ifT, ifF, not_true_eq_false, not_false_eq_true, if_true, if_false, or_self, and_self, true_and, and_true, or_true, true_or, false_or, or_false, false_and, and_false, show ¬ (1 : Int32) = 0 by decide]
            · have w2 : ¬ -(b : Int) ≤ F t := by omega
              simp (disch := first | assumption | omega | decide | (simp only [List.length_cons, List.length_nil, Nat.reduceAdd, Nat.reduceLT]; done) | fail) only [r60_56, r60_58, r60_61, r60_62, r60_65, r60_66, r60_67, r60_68, r60_71, r60_72, r60_73, r60_76, r60_77, r60_80, r60_81, r60_82, r60_83, r60_86, r60_87, r60_88, r60_89, r60_92, r60_93 (x := 0) (Or.inl rfl), r60_93 (x := 1) (Or.inr rfl), r60_93 (b2i_or _), hr19 hO, hr21 hO, gL, d1, eb, eb2, lg_cmp_gt, lg_cmp_ge, c1, c2, w1, w2, oGF_is, WPo_some, List.getElem?_cons_succ, List.getElem?_cons_zero, kil_n, kil_i, kil_a, kil_u, kil_l, Option.toList_some, Option.toList_none, List.cons_append, List.nil_append, List.set_cons_succ, List.set_cons_zero, addm1, Nat.reduceAdd, List.length_cons, List.length_nil, Nat.reduceLT, nI_clamp, nI_toInt, nI_leL, nI_Lle, nI_ltL, nI_Llt, nI_eqL, nI_Leq, nI_leE, nI_ltE, nI_eqE, nI_eqM, nI_add, nI_addL, nI_Ladd, nI_mulL, nI_Lmul, pk_mul, pk_sub, nI_subL, nI_Lsub, i2l_nI, Int.toNat_natCast, Nat.not_lt_zero, Nat.zero_le, ifT, ifF, not_true_eq_false, not_false_eq_true, if_true, if_false, or_self, and_self, true_and, and_true, or_true, true_or, false_or, or_false, false_and, and_false, show ¬ (1 : Int32) = 0 by decide]
          · obtain ⟨r, w, hr⟩ := next (fun z => y3 z.2.2) (some (.int 1))
            refine ⟨r, pre _ ?_, hr⟩
            have w1 : ¬ (b : Int) < F t := by omega
            have w2 : -(b : Int) ≤ F t := by omega
            simp (disch := first | assumption | omega | decide | (simp only [List.length_cons, List.length_nil, Nat.reduceAdd, Nat.reduceLT]; done) | fail) only [r60_56, r60_58, r60_61, r60_62, r60_65, r60_66, r60_67, r60_68, r60_71, r60_72, r60_73, r60_76, r60_77, r60_80, r60_81, r60_82, r60_83, r60_86, r60_87, r60_88, r60_89, r60_92, r60_93 (x := 0) (Or.inl rfl), r60_93 (x := 1) (Or.inr rfl), r60_93 (b2i_or _), r60_94, r60_97, hr19 hO, hr21 hO, gL, d1, eb, eb2, lg_cmp_gt, lg_cmp_ge, c1, c2, w1, w2, oGF_is, WPo_some, List.getElem?_cons_succ, List.getElem?_cons_zero, kil_n, kil_i, kil_a, kil_u, kil_l, Option.toList_some, Option.toList_none, List.cons_append, List.nil_append, List.set_cons_succ, List.set_cons_zero, addm1, Nat.reduceAdd, List.length_cons, List.length_nil, Nat.reduceLT, nI_clamp, nI_toInt, nI_leL, nI_Lle, nI_ltL, nI_Llt, nI_eqL, nI_Leq, nI_leE, nI_ltE, nI_eqE, nI_eqM, nI_add, nI_addL, nI_Ladd, nI_mulL, nI_Lmul, pk_mul, pk_sub, nI_subL, nI_Lsub, i2l_nI, Int.toNat_natCast, Nat.not_lt_zero, Nat.zero_le, ifT, ifF, not_true_eq_false, not_false_eq_true, if_true, if_false, or_self, and_self, true_and, and_true, or_true, true_or, false_or, or_false, false_and, and_false, show ¬ (1 : Int32) = 0 by decide]
            exact w
        · obtain ⟨r, w, hr⟩ := next (fun z => y2 z.2.1) (some (.int 0))
          refine ⟨r, ?_, hr⟩
          have g1 := y1
          have g2 := y2
          rw [← f1] at g1
          rw [← f2] at g2
          have m2 : ¬ onI o2 = -1 := fun z => g2 (Or.inl z)
          have z2 : ¬ iL (fac k (onI o2 - nI t).toInt) = 0 := fun z => g2 (Or.inr z)
          rw [r60_2]
          by_cases m1 : onI o1 = -1
          · simp (disch := first | assumption | omega | decide | (simp only [List.length_cons, List.length_nil, Nat.reduceAdd, Nat.reduceLT]; done) | fail) only [r60_3, r60_4, r60_7, r60_8, r60_9, r60_12, r60_15, r60_16, r60_17, r60_20, r60_21, r60_22, r60_23, r60_27, r60_28, r60_29, r60_32, r60_33, r60_34, r60_37, r60_38, r60_39, r60_40, r60_44, r60_45, r60_46, r60_49, r60_50, r60_53, r60_54, r60_56, r60_58, r60_94, r60_97, hr19 hO, eq_true m1, m2, q60_41 (kf o2 t) (er_ci hO), lg_cmp_eq, z2, show ¬ n ≤ t + k by omega, oGF_is, WPo_some, List.getElem?_cons_succ, List.getElem?_cons_zero, kil_n, kil_i, kil_a, kil_u, kil_l, Option.toList_some, Option.toList_none, List.cons_append, List.nil_append, List.set_cons_succ, List.set_cons_zero, addm1, Nat.reduceAdd, List.length_cons, List.length_nil, Nat.reduceLT, nI_clamp, nI_toInt, nI_leL, nI_Lle, nI_ltL, nI_Llt, nI_eqL, nI_Leq, nI_leE, nI_ltE, nI_eqE, nI_eqM, nI_add, nI_addL, nI_Ladd, nI_mulL, nI_Lmul, pk_mul, pk_sub, nI_subL, nI_Lsub, i2l_nI, Int.toNat_natCast, Nat.not_lt_zero, Nat.zero_le, ifT, ifF, not_true_eq_false, not_false_eq_true, if_true, if_false, or_self, and_self, true_and, and_true, or_true, true_or, false_or, or_false, false_and, and_false]
            exact w
          · have z1 : iL (fac k (onI o1 - nI t).toInt) = 0 := by rcases g1 with g | g; exact absurd g m1; exact g
            simp (disch := first | assumption | omega | decide | (simp only [List.length_cons, List.length_nil, Nat.reduceAdd, Nat.reduceLT]; done) | fail) only [r60_3, r60_4, r60_7, r60_8, r60_9, r60_12, r60_15, r60_16, r60_17, r60_20, r60_21, r60_22, r60_23, r60_27, r60_28, r60_29, r60_32, r60_33, r60_34, r60_37, r60_38, r60_39, r60_40, r60_44, r60_45, r60_46, r60_49, r60_50, r60_53, r60_54, r60_56, r60_58, r60_94, r60_97, hr19 hO, m1, m2, q60_24 (kf o1 t) (er_ci hO), q60_41 (kf o2 t) (er_ci hO), lg_cmp_eq, eq_true z1, z2, show ¬ n ≤ t + k by omega, oGF_is, WPo_some, List.getElem?_cons_succ, List.getElem?_cons_zero, kil_n, kil_i, kil_a, kil_u, kil_l, Option.toList_some, Option.toList_none, List.cons_append, List.nil_append, List.set_cons_succ, List.set_cons_zero, addm1, Nat.reduceAdd, List.length_cons, List.length_nil, Nat.reduceLT, nI_clamp, nI_toInt, nI_leL, nI_Lle, nI_ltL, nI_Llt, nI_eqL, nI_Leq, nI_leE, nI_ltE, nI_eqE, nI_eqM, nI_add, nI_addL, nI_Ladd, nI_mulL, nI_Lmul, pk_mul, pk_sub, nI_subL, nI_Lsub, i2l_nI, Int.toNat_natCast, Nat.not_lt_zero, Nat.zero_le, ifT, ifF, not_true_eq_false, not_false_eq_true, if_true, if_false, or_self, and_self, true_and, and_true, or_true, true_or, false_or, or_false, false_and, and_false]
            exact w
      · obtain ⟨r, w, hr⟩ := next (fun z => y1 z.1) (some (.int 0))
        refine ⟨r, ?_, hr⟩
        have g1 := y1
        rw [← f1] at g1
        have m1 : ¬ onI o1 = -1 := fun z => g1 (Or.inl z)
        have z1 : ¬ iL (fac k (onI o1 - nI t).toInt) = 0 := fun z => g1 (Or.inr z)
        rw [r60_2]
        simp (disch := first | assumption | omega | decide | (simp only [List.length_cons, List.length_nil, Nat.reduceAdd, Nat.reduceLT]; done) | fail) only [r60_3, r60_4, r60_7, r60_8, r60_9, r60_12, r60_15, r60_16, r60_17, r60_20, r60_21, r60_22, r60_23, r60_27, r60_28, r60_29, r60_32, r60_33, r60_34, r60_37, r60_38, r60_39, r60_40, r60_44, r60_45, r60_46, r60_49, r60_50, r60_53, r60_54, r60_56, r60_58, r60_94, r60_97, hr19 hO, m1, q60_24 (kf o1 t) (er_ci hO), lg_cmp_eq, z1, show ¬ n ≤ t + k by omega, oGF_is, WPo_some, List.getElem?_cons_succ, List.getElem?_cons_zero, kil_n, kil_i, kil_a, kil_u, kil_l, Option.toList_some, Option.toList_none, List.cons_append, List.nil_append, List.set_cons_succ, List.set_cons_zero, addm1, Nat.reduceAdd, List.length_cons, List.length_nil, Nat.reduceLT, nI_clamp, nI_toInt, nI_leL, nI_Lle, nI_ltL, nI_Llt, nI_eqL, nI_Leq, nI_leE, nI_ltE, nI_eqE, nI_eqM, nI_add, nI_addL, nI_Ladd, nI_mulL, nI_Lmul, pk_mul, pk_sub, nI_subL, nI_Lsub, i2l_nI, Int.toNat_natCast, Nat.not_lt_zero, Nat.zero_le, ifT, ifF, not_true_eq_false, not_false_eq_true, if_true, if_false, or_self, and_self, true_and, and_true, or_true, true_or, false_or, or_false, false_and, and_false]
        exact w
  obtain ⟨r, w, hr⟩ := loop (n - k) 0 none (by omega) (fun q hq => absurd hq (by omega))
  refine ⟨r, e60 ?_, hr⟩
  simp (disch := first | assumption | omega | decide | (simp only [List.length_cons, List.length_nil, Nat.reduceAdd, Nat.reduceLT]; done) | fail) only [r60_0, r60_1, oGF_is, WPo_some, List.getElem?_cons_succ, List.getElem?_cons_zero, kil_n, kil_i, kil_a, kil_u, kil_l, Option.toList_some, Option.toList_none, List.cons_append, List.nil_append, List.set_cons_succ, List.set_cons_zero, addm1, Nat.reduceAdd, List.length_cons, List.length_nil, Nat.reduceLT]
  exact w
end EX2

/-! Engines of the class: set, the call -/
noncomputable def seSt (en : Nat) (ax : Nat → Nat) (sr : Nat → Int32) (mn : Nat → Nat) (tn : Nat → Nat → Int64) (e tray n : Int32) : Int32 := if ¬ etSt en sr mn e tray n (ax e.toInt.toNat) = 0 then etSt en sr mn e tray n (ax e.toInt.toNat) else if ¬ (∀ k, k < n.toInt.toNat → -1000000000 ≤ tn tray.toInt.toNat k ∧ tn tray.toInt.toNat k ≤ 1000000000) then 5 else 0
section SEX
variable {E : aEnv} {c : Nat} {ah : aHp} {A : Nat → Nat} {S : Nat → aE} {tx sp : Nat} {hT tL st : Int32} {en : Nat} {ax wh : Nat → Nat} {rx : Nat → Nat → Nat} {fg : Nat → Nat → Nat → Nat} {tu ms : Nat → Nat} {mq : Nat → Nat → Nat → Nat} {sr : Nat → Int32} {mn : Nat → Nat} {tn : Nat → Nat → Int64}
theorem p_0 {b axx whh : Nat} {al : Int64} {ms tu : Int32} {ei : Nat → Nat → Int32} {el : Nat → Nat → Int64} (hS : eSt A S b axx whh al ms tu ei el = S) (h : XB E ah A b) : hg E (oh E ah A S) (A b) = some (.inr (2, [.int (nI axx), .int (nI whh), .ref (A (b + 6)), .ref (A (b + 7)), .long al, .ref (A (b + 8)), .ref (A (b + 9)), .ref (A (b + 10)), .ref (A (b + 1)), .ref (A (b + 2)), .ref (A (b + 3)), .ref (A (b + 4)), .ref (A (b + 5)), .int ms, .int tu])) := by
  have k := ge_0 (S := S) (ax := axx) (wh := whh) (al := al) (ms := ms) (tu := tu) (ei := ei) (el := el) h
  rw [hS] at k
  exact k
theorem x_set_no (hN : XN E ah A en) (hX : S 0 = xO A tx sp hT (nI en) tL st) (h : enS A S en ax wh rx fg tu ms mq) (ht : trS A S sr mn tn) {e tray n : Int32} (hs : ¬ seSt en ax sr mn tn e tray n = 0) : ∃ S', EV E (c + 4) 154 [.ref (A 0), .int e, .int tray, .int n] (oh E ah A S) (some (.int 0)) (oh E ah A S') ∧ S' = su S 0 (xO A tx sp hT (nI en) tL (seSt en ax sr mn tn e tray n)) := by
  have hO := hN.O
  have hc := hO.c0 hX
  have h4 := h.1
  by_cases h1 : etSt en sr mn e tray n (ax e.toInt.toNat) = 0
  · have e5 : seSt en ax sr mn tn e tray n = 5 := by
      unfold seSt at hs ⊢
      rw [if_neg (not_not_intro h1)] at hs ⊢
      split at hs
      · next z => rw [if_pos z]
      · exact absurd rfl hs
    have h1' := h1
    unfold etSt at h1'
    have g1 : 0 ≤ e.toInt ∧ e.toInt < en := Classical.byContradiction fun z => by
      rw [if_pos z] at h1'
      split at h1' <;> exact absurd h1' (by decide)
    obtain ⟨i0, hi0, rfl⟩ := i32_nat (n := en) g1.1 g1.2
    rw [nI_toInt (show i0 < 2 ^ 31 by omega), Int.toNat_natCast] at h1
    obtain ⟨t0, ei0, el0, ⟨g0, gr⟩, hq0⟩ := h.2.2 i0 hi0
    obtain ⟨i, j, k, hi, ee, hj, rfl, hne, rfl, k1, k2, k3⟩ := etSt_0 h4 (top := ax i0) (by omega) h1
    have hw : ¬ ∀ q, q < k → -1000000000 ≤ tn j q ∧ tn j q ≤ 1000000000 := fun z => by
      unfold seSt at e5
      rw [nI_toInt (show i0 < 2 ^ 31 by omega), Int.toNat_natCast, if_neg (not_not_intro h1), nI_toInt (by omega), nI_toInt (by omega), Int.toNat_natCast, Int.toNat_natCast, if_neg (not_not_intro z)] at e5
      exact absurd e5 (by decide)
    have hB := hN.B hi0
    have h5 : (1 : Int) ≤ k ∧ (k : Int) ≤ ax i0 := by omega
    have h6 : ¬ (mn j : Int) < k := by omega
    have ht2 := (ht.x (e := xO A tx sp hT (nI en) tL 0)).TR hO hj
    have e1 := c_allWithin (c := c + 1) ht2 (n := k) (lo := -1000000000) (hi := 1000000000) (by omega)
    refine ⟨_, e154 ?_, rfl⟩
    rw [e5]
    have hX' := hX
    unfold xO at hX' e1 ht2 ⊢
    simp (disch := first | assumption | omega | decide | (simp only [List.length_cons, List.length_nil, Nat.reduceAdd, Nat.reduceLT]; done) | fail) only [r154_0, r154_1, r154_5, r154_5n, r154_7, r154_8, r154_12, r154_12n, r154_14, r154_15, r154_15n, r154_17, r154_17n, r154_19, r154_20, r154_20n, r154_22, r154_22n, r154_25, r154_26, r154_29, r154_29n, r154_31, r154_37, r154_40, r154_41, r154_44, r154_47, r154_47n, r154_49, r154_50, r154_53, r154_59, r154_62, r154_63, r154_64, r154_67, r154_68, r154_71, r154_74, r154_74n, r154_76, r154_76n, r154_78, r154_82, r154_83, r154_86, r154_89, r154_90, r154_93, r154_94 (x := 0) (Or.inl rfl), r154_94 (x := 1) (Or.inr rfl), r154_94 (b2i_or _), q154_2 (c_engineAt hN hX h hi0) hc, q154_9 (c_trayAt hO hX ht hj) hc, p_0 (eSt_id hq0) hB, q154_34 (c_ets (ht.TR hO hj)), hne, h5, h6, oGF_is, WPo_some, List.getElem?_cons_succ, List.getElem?_cons_zero, kil_n, kil_i, kil_a, kil_u, kil_l, Option.toList_some, Option.toList_none, List.cons_append, List.nil_append, List.set_cons_succ, List.set_cons_zero, addm1, Nat.reduceAdd, List.length_cons, List.length_nil, Nat.reduceLT, not_true_eq_false, not_false_eq_true, if_true, if_false, or_self, and_self, true_and, and_true, or_true, true_or, false_or, or_false, false_and, and_false, hx_0 hO, hX', pf_10150, sx_0 hO, su_at, su_su, q154_56 e1 ht2.ci, b2i_eq0, nI_toInt, hw, show ¬ (5 : Int32) = 0 by decide]
  · have e2 : seSt en ax sr mn tn e tray n = etSt en sr mn e tray n (ax e.toInt.toNat) := if_pos h1
    rw [e2]
    refine ⟨_, e154 ?_, rfl⟩
    have hX' := hX
    by_cases g1 : 0 ≤ e.toInt ∧ e.toInt < en
    · obtain ⟨i, hi, rfl⟩ := i32_nat (n := en) g1.1 g1.2
      obtain ⟨t0, ei0, el0, ⟨g0, gr⟩, hq0⟩ := h.2.2 i hi
      have hB := hN.B hi
      have eax : (nI (ax i)).toInt = (ax i : Int) := nI_toInt (by omega)
      rw [nI_toInt (show i < 2 ^ 31 by omega), Int.toNat_natCast] at h1 ⊢
      by_cases g2 : 0 ≤ tray.toInt ∧ tray.toInt ≤ 3
      · obtain ⟨j, hj, rfl⟩ := i32_nat (n := 4) g2.1 (by omega)
        have e1 := etSt_i (sr := sr) (mn := mn) hi h4 hj (n := n) (top := ax i)
        unfold xO at hX' ⊢
        simp (disch := first | assumption | omega | decide | (simp only [List.length_cons, List.length_nil, Nat.reduceAdd, Nat.reduceLT]; done) | fail) only [r154_0, r154_1, r154_5, r154_5n, r154_7, r154_8, r154_12, r154_12n, r154_14, r154_15, r154_15n, r154_17, r154_17n, r154_19, r154_20, r154_20n, r154_22, r154_22n, r154_25, r154_26, r154_29, r154_29n, r154_31, r154_37, r154_40, r154_41, r154_44, r154_47, r154_47n, r154_49, r154_50, r154_53, r154_59, r154_62, r154_63, r154_64, r154_67, r154_68, r154_71, r154_74, r154_74n, r154_76, r154_76n, r154_78, r154_82, r154_83, r154_86, r154_89, r154_90, r154_93, r154_94 (x := 0) (Or.inl rfl), r154_94 (x := 1) (Or.inr rfl), r154_94 (b2i_or _), q154_2 (c_engineAt hN hX h hi) hc, q154_9 (c_trayAt hO hX ht hj) hc, p_0 (eSt_id hq0) hB, q154_34 (c_ets (ht.TR hO hj)), eax, ← e1, h1, oGF_is, WPo_some, List.getElem?_cons_succ, List.getElem?_cons_zero, kil_n, kil_i, kil_a, kil_u, kil_l, Option.toList_some, Option.toList_none, List.cons_append, List.nil_append, List.set_cons_succ, List.set_cons_zero, addm1, Nat.reduceAdd, List.length_cons, List.length_nil, Nat.reduceLT, not_true_eq_false, not_false_eq_true, if_true, if_false, or_self, and_self, true_and, and_true, or_true, true_or, false_or, or_false, false_and, and_false, hx_0 hO, hX', pf_10150, sx_0 hO, su_at]
      · have e1 : etSt en sr mn (nI i) tray n (ax i) = 1 := if_pos g2
        rw [e1]
        unfold xO at hX' ⊢
        simp (disch := first | assumption | omega | decide | (simp only [List.length_cons, List.length_nil, Nat.reduceAdd, Nat.reduceLT]; done) | fail) only [r154_0, r154_1, r154_5, r154_5n, r154_7, r154_8, r154_12, r154_12n, r154_14, r154_15, r154_15n, r154_17, r154_17n, r154_19, r154_20, r154_20n, r154_22, r154_22n, r154_25, r154_26, r154_29, r154_29n, r154_31, r154_37, r154_40, r154_41, r154_44, r154_47, r154_47n, r154_49, r154_50, r154_53, r154_59, r154_62, r154_63, r154_64, r154_67, r154_68, r154_71, r154_74, r154_74n, r154_76, r154_76n, r154_78, r154_82, r154_83, r154_86, r154_89, r154_90, r154_93, r154_94 (x := 0) (Or.inl rfl), r154_94 (x := 1) (Or.inr rfl), r154_94 (b2i_or _), q154_2 (c_engineAt hN hX h hi) hc, q154_9 (c_trayAt_no g2) hc, p_0 (eSt_id hq0) hB, q154_34n1 c_ets_n1, oGF_is, WPo_some, List.getElem?_cons_succ, List.getElem?_cons_zero, kil_n, kil_i, kil_a, kil_u, kil_l, Option.toList_some, Option.toList_none, List.cons_append, List.nil_append, List.set_cons_succ, List.set_cons_zero, addm1, Nat.reduceAdd, List.length_cons, List.length_nil, Nat.reduceLT, not_true_eq_false, not_false_eq_true, if_true, if_false, or_self, and_self, true_and, and_true, or_true, true_or, false_or, or_false, false_and, and_false, hx_0 hO, hX', pf_10150, sx_0 hO, su_at, show ¬ (1 : Int32) = 0 by decide]
    · by_cases g2 : 0 ≤ tray.toInt ∧ tray.toInt ≤ 3
      · obtain ⟨j, hj, rfl⟩ := i32_nat (n := 4) g2.1 (by omega)
        have e1 : etSt en sr mn e (nI j) n (ax e.toInt.toNat) = 2 := by
          unfold etSt
          rw [if_neg (not_not_intro g2), if_pos g1]
        rw [e1]
        unfold xO at hX' ⊢
        simp (disch := first | assumption | omega | decide | (simp only [List.length_cons, List.length_nil, Nat.reduceAdd, Nat.reduceLT]; done) | fail) only [r154_0, r154_1, r154_5, r154_5n, r154_7, r154_8, r154_12, r154_12n, r154_14, r154_15, r154_15n, r154_17, r154_17n, r154_19, r154_20, r154_20n, r154_22, r154_22n, r154_25, r154_26, r154_29, r154_29n, r154_31, r154_37, r154_40, r154_41, r154_44, r154_47, r154_47n, r154_49, r154_50, r154_53, r154_59, r154_62, r154_63, r154_64, r154_67, r154_68, r154_71, r154_74, r154_74n, r154_76, r154_76n, r154_78, r154_82, r154_83, r154_86, r154_89, r154_90, r154_93, r154_94 (x := 0) (Or.inl rfl), r154_94 (x := 1) (Or.inr rfl), r154_94 (b2i_or _), q154_2 (c_engineAt_no hN hX h4 g1) hc, q154_9 (c_trayAt hO hX ht hj) hc, q154_34n0 (c_ets_n0 (ht.TR hO hj)), oGF_is, WPo_some, List.getElem?_cons_succ, List.getElem?_cons_zero, kil_n, kil_i, kil_a, kil_u, kil_l, Option.toList_some, Option.toList_none, List.cons_append, List.nil_append, List.set_cons_succ, List.set_cons_zero, addm1, Nat.reduceAdd, List.length_cons, List.length_nil, Nat.reduceLT, not_true_eq_false, not_false_eq_true, if_true, if_false, or_self, and_self, true_and, and_true, or_true, true_or, false_or, or_false, false_and, and_false, hx_0 hO, hX', pf_10150, sx_0 hO, su_at, show ¬ (2 : Int32) = 0 by decide]
      · have e1 : etSt en sr mn e tray n (ax e.toInt.toNat) = 1 := if_pos g2
        rw [e1]
        unfold xO at hX' ⊢
        simp (disch := first | assumption | omega | decide | (simp only [List.length_cons, List.length_nil, Nat.reduceAdd, Nat.reduceLT]; done) | fail) only [r154_0, r154_1, r154_5, r154_5n, r154_7, r154_8, r154_12, r154_12n, r154_14, r154_15, r154_15n, r154_17, r154_17n, r154_19, r154_20, r154_20n, r154_22, r154_22n, r154_25, r154_26, r154_29, r154_29n, r154_31, r154_37, r154_40, r154_41, r154_44, r154_47, r154_47n, r154_49, r154_50, r154_53, r154_59, r154_62, r154_63, r154_64, r154_67, r154_68, r154_71, r154_74, r154_74n, r154_76, r154_76n, r154_78, r154_82, r154_83, r154_86, r154_89, r154_90, r154_93, r154_94 (x := 0) (Or.inl rfl), r154_94 (x := 1) (Or.inr rfl), r154_94 (b2i_or _), q154_2 (c_engineAt_no hN hX h4 g1) hc, q154_9 (c_trayAt_no g2) hc, q154_34n0n1 c_ets_n, oGF_is, WPo_some, List.getElem?_cons_succ, List.getElem?_cons_zero, kil_n, kil_i, kil_a, kil_u, kil_l, Option.toList_some, Option.toList_none, List.cons_append, List.nil_append, List.set_cons_succ, List.set_cons_zero, addm1, Nat.reduceAdd, List.length_cons, List.length_nil, Nat.reduceLT, not_true_eq_false, not_false_eq_true, if_true, if_false, or_self, and_self, true_and, and_true, or_true, true_or, false_or, or_false, false_and, and_false, hx_0 hO, hX', pf_10150, sx_0 hO, su_at, show ¬ (1 : Int32) = 0 by decide]
theorem x_set_ok (hN : XN E ah A en) (hX : S 0 = xO A tx sp hT (nI en) tL st) (h : enS A S en ax wh rx fg tu ms mq) (ht : trS A S sr mn tn) {i j k : Nat} (hi : i < en) (hj : j < 4) (hne : ¬ sr j = -1) (hk : 1 ≤ k ∧ k ≤ ax i ∧ k ≤ mn j) (hr : ∀ q, q < k → -1000000000 ≤ tn j q ∧ tn j q ≤ 1000000000) : ∃ S', EV E (c + 4) 154 [.ref (A 0), .int (nI i), .int (nI j), .int (nI k)] (oh E ah A S) (some (.int 1)) (oh E ah A S') ∧ S' 0 = xO A tx sp hT (nI en) tL 0 ∧ enS A S' en ax wh rx (fnu fg i (fun x w => dgt (sV k (tn j) x) (rx i) w)) (fnu tu i 0) ms mq ∧ ∀ q, q ≠ 0 → q < 81 → S' q = S q := by
  have hO := hN.O
  have hc := hO.c0 hX
  have h4 := h.1
  have hB := hN.B hi
  obtain ⟨t0, ei0, el0, ⟨g0, gr⟩, hq0⟩ := h.2.2 i hi
  have hx2 := h.x (e := xO A tx sp hT (nI en) tL 0)
  obtain ⟨t2, ei2, el2, hg2, hq2⟩ := hx2.2.2 i hi
  obtain ⟨ei3, el3, g3, e3⟩ := c_setUp (c := c) (S := su S 0 (xO A tx sp hT (nI en) tL 0)) (ms := nI (ms i)) (tu := nI (tu i)) hB hO (by omega) ht.x hj hk.1 hk.2.1 hk.2.2 hg2
  have u1 := hx2.up hi (tu' := 0) (by omega) g3
  rw [fnu_self, fnu_self] at u1
  have h5 : (1 : Int) ≤ k ∧ (k : Int) ≤ ax i := by omega
  have h6 : ¬ (mn j : Int) < k := by omega
  have ht2 := (ht.x (e := xO A tx sp hT (nI en) tL 0)).TR hO hj
  have e1 := c_allWithin (c := c + 1) ht2 (n := k) (lo := -1000000000) (hi := 1000000000) (by omega)
  refine ⟨_, e154 ?_, ?_, u1, ?_⟩
  · have hX' := hX
    have hw := eq_true hr
    rw [eSt_id hq2] at e3
    have ci2 := p_ci (eSt_id hq2) hB
    unfold xO at hX' e1 ht2 e3 ci2 ⊢
    simp (disch := first | assumption | omega | decide | (simp only [List.length_cons, List.length_nil, Nat.reduceAdd, Nat.reduceLT]; done) | fail) only [r154_0, r154_1, r154_5, r154_5n, r154_7, r154_8, r154_12, r154_12n, r154_14, r154_15, r154_15n, r154_17, r154_17n, r154_19, r154_20, r154_20n, r154_22, r154_22n, r154_25, r154_26, r154_29, r154_29n, r154_31, r154_37, r154_40, r154_41, r154_44, r154_47, r154_47n, r154_49, r154_50, r154_53, r154_59, r154_62, r154_63, r154_64, r154_67, r154_68, r154_71, r154_74, r154_74n, r154_76, r154_76n, r154_78, r154_82, r154_83, r154_86, r154_89, r154_90, r154_93, r154_94 (x := 0) (Or.inl rfl), r154_94 (x := 1) (Or.inr rfl), r154_94 (b2i_or _), q154_2 (c_engineAt hN hX h hi) hc, q154_9 (c_trayAt hO hX ht hj) hc, p_0 (eSt_id hq0) hB, q154_34 (c_ets (ht.TR hO hj)), hne, h5, h6, oGF_is, WPo_some, List.getElem?_cons_succ, List.getElem?_cons_zero, kil_n, kil_i, kil_a, kil_u, kil_l, Option.toList_some, Option.toList_none, List.cons_append, List.nil_append, List.set_cons_succ, List.set_cons_zero, addm1, Nat.reduceAdd, List.length_cons, List.length_nil, Nat.reduceLT, not_true_eq_false, not_false_eq_true, if_true, if_false, or_self, and_self, true_and, and_true, or_true, true_or, false_or, or_false, false_and, and_false, hx_0 hO, hX', pf_10150, sx_0 hO, su_at, su_su, q154_56 e1 ht2.ci, b2i_eq0, nI_toInt, hw, q154_79 e3 ci2, eSt_o, show nI 0 = 0 from rfl]
  · rw [eSt_o (by omega), su_at]
  · intro q h1 h2
    rw [eSt_o (by omega), su_ne h1]
end SEX

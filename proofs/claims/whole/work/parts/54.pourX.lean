/-! pour of the class -/
noncomputable def poSt (sr : Nat → Int32) (mn : Nat → Nat) (tray i to j many : Int32) : Int32 :=
  if ¬ ((0 ≤ tray.toInt ∧ tray.toInt ≤ 3) ∧ 0 ≤ to.toInt ∧ to.toInt ≤ 3) then 1 else if sr tray.toInt.toNat = -1 ∨ sr to.toInt.toNat = -1 then 3 else if ¬ sr tray.toInt.toNat = sr to.toInt.toNat then 11 else if many.toInt < 0 then 6
  else if ¬ ((0 ≤ i.toInt ∧ 0 ≤ j.toInt) ∧ i.toInt + many.toInt ≤ mn tray.toInt.toNat ∧ j.toInt + many.toInt ≤ mn to.toInt.toNat) then 4 else 0
section POX
variable {E : aEnv} {c : Nat} {ah : aHp} {A : Nat → Nat} {S : Nat → aE} {sr : Nat → Int32} {mn : Nat → Nat} {tn : Nat → Nat → Int64} {tx sp : Nat} {hT eC tL st : Int32}
theorem c_pourSt {p a k p2 a2 k2 : Nat} {s s2 : Int32} {N N2 : Nat → Int64} {ah : aHp} (h : TR E ah p a s k N) (h2 : TR E ah p2 a2 s2 k2 N2) {many : Int32} : EV E (c + 1) 187 [.ref p, .ref p2, .int many] ah (some (.int (if s = -1 ∨ s2 = -1 then 3 else if ¬ s = s2 then 11 else if many.toInt < 0 then 6 else 0))) ah := by
  refine e187 ?_
  simp only [r187_0, r187_0n, r187_1, r187_1n, r187_4, r187_4n, r187_5, r187_5n, r187_8, r187_9, r187_10, r187_10n, r187_14, r187_17, r187_17n, r187_21, r187_24, r187_25, r187_26, r187_26n, r187_27, r187_27n, r187_31, r187_34, r187_36, r187_37, r187_38, r187_41, r187_43, r187_46, r187_47, q187_11 (c_isMissing h) h.ci, q187_18 (c_isMissing h2) h2.ci, q187_28 (c_isLike h h2) h.ci, oGF_is, WPo_some, List.getElem?_cons_succ, List.getElem?_cons_zero, kil_n, kil_i, kil_a, kil_u, kil_l, Option.toList_some, Option.toList_none, List.cons_append, List.nil_append, List.set_cons_succ, List.set_cons_zero, addm1, Nat.reduceAdd, List.length_cons, List.length_nil, Nat.reduceLT, b2i_eq0, i32_lt, i32_le, i64_lt, i64_le, i2l_toInt, Int32.reduceToInt, Int64.reduceToInt]
  repeat' split
  all_goals first | exact ⟨rfl, rfl⟩ | (exfalso; omega) | (exfalso; simp_all; done) | (simp_all; done)
theorem c_pourSt_n0 {ah : aHp} {p2 : Nat} {many : Int32} : EV E c 187 [.null, .ref p2, .int many] ah (some (.int 1)) ah := by
  refine e187n0 ?_
  simp only [r187_0, r187_0n, r187_1, r187_1n, r187_4, r187_4n, r187_5, r187_5n, r187_8, r187_9, r187_10, r187_10n, r187_14, r187_17, r187_17n, r187_21, r187_24, r187_25, r187_26, r187_26n, r187_27, r187_27n, r187_31, r187_34, r187_36, r187_37, r187_38, r187_41, r187_43, r187_46, r187_47, not_true_eq_false, not_false_eq_true, if_true, if_false, or_self, and_self, true_and, and_true, or_true, true_or, false_or, or_false, false_and, and_false]
theorem c_pourSt_n1 {ah : aHp} {p : Nat} {many : Int32} : EV E c 187 [.ref p, .null, .int many] ah (some (.int 1)) ah := by
  refine e187n1 ?_
  simp only [r187_0, r187_0n, r187_1, r187_1n, r187_4, r187_4n, r187_5, r187_5n, r187_8, r187_9, r187_10, r187_10n, r187_14, r187_17, r187_17n, r187_21, r187_24, r187_25, r187_26, r187_26n, r187_27, r187_27n, r187_31, r187_34, r187_36, r187_37, r187_38, r187_41, r187_43, r187_46, r187_47, not_true_eq_false, not_false_eq_true, if_true, if_false, or_self, and_self, true_and, and_true, or_true, true_or, false_or, or_false, false_and, and_false]
theorem c_pourSt_n {ah : aHp} {many : Int32} : EV E c 187 [.null, .null, .int many] ah (some (.int 1)) ah := by
  refine e187n0n1 ?_
  simp only [r187_0, r187_0n, r187_1, r187_1n, r187_4, r187_4n, r187_5, r187_5n, r187_8, r187_9, r187_10, r187_10n, r187_14, r187_17, r187_17n, r187_21, r187_24, r187_25, r187_26, r187_26n, r187_27, r187_27n, r187_31, r187_34, r187_36, r187_37, r187_38, r187_41, r187_43, r187_46, r187_47, not_true_eq_false, not_false_eq_true, if_true, if_false, or_self, and_self, true_and, and_true, or_true, true_or, false_or, or_false, false_and, and_false]
theorem c_pourInto {p a k p2 a2 k2 : Nat} {s s2 : Int32} {N N2 : Nat → Int64} {ah : aHp} (h : TR E ah p a s k N) (h2 : TR E ah p2 a2 s2 k2 N2) {i j n : Nat} (h3 : i + n ≤ k) (h4 : j + n ≤ k2) : EV E (c + 1) 143 [.ref p, .ref p2, .int (nI i), .int (nI j), .int (nI n)] ah none (hs E ah a2 (.inl (1, 60, .inr (.inl (va_cpy N N2 i j n))))) := by
  have k1 := h.2.2
  have k2' := h2.2.2
  have e1 := nI_toInt (show i < 2 ^ 31 by omega)
  have e2 := nI_toInt (show j < 2 ^ 31 by omega)
  have e3 := nI_toInt (show n < 2 ^ 31 by omega)
  have b1 : (0 ≤ (nI i).toInt ∧ 0 ≤ (nI n).toInt ∧ (nI i).toInt + (nI n).toInt ≤ k) := by omega
  have b2 : (0 ≤ (nI j).toInt ∧ 0 ≤ (nI n).toInt ∧ (nI j).toInt + (nI n).toInt ≤ k2) := by omega
  refine e143 ?_
  simp only [r143_0, r143_1, r143_2, q143_4 (c_hasRow2 h) h.ci, oGF_is, WPo_some, List.getElem?_cons_succ, List.getElem?_cons_zero, kil_n, kil_i, kil_a, kil_u, kil_l, Option.toList_some, Option.toList_none, List.cons_append, List.nil_append, List.set_cons_succ, List.set_cons_zero, addm1, Nat.reduceAdd, List.length_cons, List.length_nil, Nat.reduceLT, b2i_eq0, b1, r143_7, r143_10, r143_10n, r143_11, r143_12, q143_14 (c_hasRow2 h2) h2.ci, b2, r143_17, r143_20, r143_21, r143_24, r143_25, r143_25n, r143_26, r143_29, r143_30, h.1, h2.1, not_true_eq_false, not_false_eq_true, if_true, if_false, or_self, and_self, true_and, and_true, or_true, true_or, false_or, or_false, false_and, and_false]
  have hx0 : cY E ah [.int (nI n), .int (nI j), .ref a2, .int (nI i), .ref a] = some ([], hs E ah a2 (.inl (1, 60, .inr (.inl (va_cpy N N2 i j n))))) := by
    unfold cY
    simp only [h.2.1, h2.2.1, nI_pos (show i < 2 ^ 31 by omega), nI_pos (show j < 2 ^ 31 by omega), nI_pos (show n < 2 ^ 31 by omega), nI_clamp (show i < 2 ^ 31 by omega), nI_clamp (show j < 2 ^ 31 by omega), nI_clamp (show n < 2 ^ 31 by omega), show ¬ 60 < i + n by omega, show ¬ 60 < j + n by omega, not_true_eq_false, not_false_eq_true, if_true, if_false, or_self, and_self, true_and, and_true, or_true, true_or, false_or, or_false, false_and, and_false]
  have hx : xtA E (.ldc_w 2) [.int (nI n), .int (nI j), .ref a2, .int (nI i), .ref a] ah = some ([], hs E ah a2 (.inl (1, 60, .inr (.inl (va_cpy N N2 i j n))))) := by
    unfold xtA
    exact hx0
  rw [wp_xt (q := ([], hs E ah a2 (.inl (1, 60, .inr (.inl (va_cpy N N2 i j n)))))) i143_32 rfl rfl hx (by show 1 ≤ c + 1; omega) wds_nil]
  simp only [r143_35, not_true_eq_false, not_false_eq_true, if_true, if_false, or_self, and_self, true_and, and_true, or_true, true_or, false_or, or_false, false_and, and_false]
theorem poSt_is {i0 t0 : Nat} (h1 : i0 < 4) (h2 : t0 < 4) {i j many : Int32} : poSt sr mn (nI i0) i (nI t0) j many = if sr i0 = -1 ∨ sr t0 = -1 then 3 else if ¬ sr i0 = sr t0 then 11 else if many.toInt < 0 then 6 else if ¬ ((0 ≤ i.toInt ∧ 0 ≤ j.toInt) ∧ i.toInt + many.toInt ≤ mn i0 ∧ j.toInt + many.toInt ≤ mn t0) then 4 else 0 := by
  have e1 := nI_toInt (show i0 < 2 ^ 31 by omega)
  have e2 := nI_toInt (show t0 < 2 ^ 31 by omega)
  unfold poSt
  rw [e1, e2, if_neg (not_not_intro ⟨⟨by omega, by omega⟩, by omega, by omega⟩)]
  rfl
theorem poSt_0 {tray i to j many : Int32} (hm : ∀ x, x < 4 → mn x ≤ 60) (h : poSt sr mn tray i to j many = 0) : ∃ i0 t0 ii jj n, i0 < 4 ∧ t0 < 4 ∧ tray = nI i0 ∧ to = nI t0 ∧ ¬ sr i0 = -1 ∧ ¬ sr t0 = -1 ∧ sr i0 = sr t0 ∧ i = nI ii ∧ j = nI jj ∧ many = nI n ∧ ii + n ≤ mn i0 ∧ jj + n ≤ mn t0 := by
  have h0 := h
  unfold poSt at h
  repeat' split at h
  all_goals first | (exfalso; revert h; decide) | skip
  rename_i h1 h2 h3 h4 h5
  obtain ⟨⟨h1a, h1b⟩, h1c, h1d⟩ := Classical.not_not.mp h1
  obtain ⟨i0, hi0, rfl⟩ := i32_nat (n := 4) h1a (by omega)
  obtain ⟨t0, ht0, rfl⟩ := i32_nat (n := 4) h1c (by omega)
  rw [nI_toInt (show i0 < 2 ^ 31 by omega), nI_toInt (show t0 < 2 ^ 31 by omega)] at h2 h3 h5
  have m1 := hm i0 hi0
  have m2 := hm t0 ht0
  obtain ⟨⟨h5a, h5b⟩, h5c, h5d⟩ := Classical.not_not.mp h5
  simp only [Int.toNat_natCast] at h2 h3 h5c h5d
  obtain ⟨ii, hii, rfl⟩ := i32_nat (x := i) (n := 61) h5a (by omega)
  obtain ⟨jj, hjj, rfl⟩ := i32_nat (x := j) (n := 61) h5b (by omega)
  obtain ⟨n, hn, rfl⟩ := i32_nat (x := many) (n := 61) (by omega) (by omega)
  rw [nI_toInt (show n < 2 ^ 31 by omega)] at h5c h5d
  rw [nI_toInt (show ii < 2 ^ 31 by omega)] at h5c
  rw [nI_toInt (show jj < 2 ^ 31 by omega)] at h5d
  exact ⟨i0, t0, ii, jj, n, hi0, ht0, rfl, rfl, fun z => h2 (Or.inl z), fun z => h2 (Or.inr z), Classical.not_not.mp h3, rfl, rfl, rfl, by omega, by omega⟩
theorem x_pour_ok (hO : XO E ah A) (hX : S 0 = xO A tx sp hT eC tL st) (h : trS A S sr mn tn) {i0 t0 i j n : Nat} (hi0 : i0 < 4) (ht0 : t0 < 4) (g1 : ¬ sr i0 = -1) (g2 : ¬ sr t0 = -1) (g3 : sr i0 = sr t0) (g4 : i + n ≤ mn i0) (g5 : j + n ≤ mn t0) : ∃ S', EV E (c + 3) 149 [.ref (A 0), .int (nI i0), .int (nI i), .int (nI t0), .int (nI j), .int (nI n)] (oh E ah A S) (some (.int 1)) (oh E ah A S') ∧ S' 0 = xO A tx sp hT eC tL 0 ∧ trS A S' sr mn (fnu tn t0 (va_cpy (tn i0) (tn t0) i j n)) ∧ ∀ j, j ≠ 0 → j < 73 ∨ 80 < j → S' j = S j := by
  have hc := hO.c0 hX
  have hT1 := h.TR hO hi0
  have hT2 := h.TR hO ht0
  have m1 := hT1.2.2
  have m2 := hT2.2.2
  have h' : trS A (su S 0 (xO A tx sp hT eC tL 0)) sr mn tn := h.x
  have n4 : ¬ 0 = 74 + 2 * t0 := by omega
  have e1 := nI_toInt (show i < 2 ^ 31 by omega)
  have e2 := nI_toInt (show j < 2 ^ 31 by omega)
  have e3 := nI_toInt (show n < 2 ^ 31 by omega)
  have s2 : ∀ S e, hs E (oh E ah A S) (A (74 + 2 * t0)) e = oh E ah A (su S (74 + 2 * t0) e) := fun S e => hO.s (by omega)
  refine ⟨_, e149 ?_, ?_, p_lay h' ht0, ?_⟩
  · have hX' := hX
    have k1 := h'.TR hO hi0
    have k2 := h'.TR hO ht0
    unfold xO at hX' k1 k2 ⊢
    simp only [r149_0, r149_1, r149_5, r149_5n, r149_7, r149_8, r149_12, r149_12n, r149_14, r149_15, r149_15n, r149_17, r149_17n, r149_19, r149_24, r149_27, r149_28, r149_31, r149_34, r149_34n, r149_36, r149_37, r149_42, r149_45, r149_45n, r149_47, r149_49, r149_54, r149_57, r149_58, r149_59, r149_62, r149_63, r149_66, r149_69, r149_69n, r149_71, r149_71n, r149_73, r149_74, r149_76, r149_81, r149_82, r149_85, r149_88, r149_89, r149_92, r149_93 (x := 0) (Or.inl rfl), r149_93 (x := 1) (Or.inr rfl), r149_93 (b2i_or _), q149_2 (c_trayAt hO hX h hi0) hc, q149_9 (c_trayAt hO hX h ht0) hc, oGF_is, WPo_some, List.getElem?_cons_succ, List.getElem?_cons_zero, kil_n, kil_i, kil_a, kil_u, kil_l, Option.toList_some, Option.toList_none, List.cons_append, List.nil_append, List.set_cons_succ, List.set_cons_zero, addm1, Nat.reduceAdd, List.length_cons, List.length_nil, Nat.reduceLT, q149_21 (c_pourSt hT1 hT2), g1, g2, g3, e1, e2, e3, show ¬ (n : Int) < 0 by omega, hx_0 hO, hX', pf_10150, sx_0 hO, su, not_true_eq_false, not_false_eq_true, if_true, if_false, or_self, and_self, true_and, and_true, or_true, true_or, false_or, or_false, false_and, and_false, q149_39 (c_hasRow2 k1) k1.ci, q149_51 (c_hasRow2 k2) k2.ci, b2i_eq0, show (0 : Int) ≤ (i : Int) by omega, show (0 : Int) ≤ (j : Int) by omega, show (0 : Int) ≤ (n : Int) by omega, show (i : Int) + (n : Int) ≤ (mn i0 : Int) by omega, show (j : Int) + (n : Int) ≤ (mn t0 : Int) by omega, q149_78 (c_pourInto k1 k2 g4 g5) k1.ci, s2, n4]
  · simp [su, n4]
  · intro j h1 h2
    simp [su, h1, show ¬ j = 74 + 2 * t0 by omega]
end POX

/-! The model explains -/
theorem WP.ex {E : aEnv} {c k pc : Nat} {ls : aLs} {st : List Value} {ah : aHp} {Q : Option Value → aHp → Prop} (h : WP E c k pc ls st ah Q) : ∃ r a, Q r a ∧ WP E c k pc ls st ah (fun r1 a1 => r1 = r ∧ a1 = a) := by
  obtain ⟨f, r, a, h1, h2⟩ := h
  exact ⟨r, a, h2, f, r, a, h1, rfl, rfl⟩
noncomputable def FS (P : Nat → Nat → Prop) (R Q : Nat) : Option (Nat × Nat) → Prop
  | none => ∀ t q, t < R → q < Q → ¬ P t q
  | some (t, q) => t < R ∧ q < Q ∧ P t q ∧ (∀ t' q', t' < t → q' < Q → ¬ P t' q') ∧ ∀ q', q' < q → ¬ P t q'
theorem fst1 (p : Nat → Prop) : ∀ n, (∀ q, q < n → ¬ p q) ∨ ∃ q, q < n ∧ p q ∧ ∀ q', q' < q → ¬ p q'
  | 0 => Or.inl (fun q hq => absurd hq (by omega))
  | n + 1 => by
    rcases fst1 p n with h | ⟨q, h1, h2, h3⟩
    · by_cases z : p n
      · exact Or.inr ⟨n, by omega, z, h⟩
      · refine Or.inl (fun q hq => ?_)
        by_cases y : q = n
        · rw [y]; exact z
        · exact h q (by omega)
    · exact Or.inr ⟨q, by omega, h2, h3⟩
theorem FS_ex (P : Nat → Nat → Prop) (R Q : Nat) : ∃ o, FS P R Q o := by
  rcases fst1 (fun t => ∃ q, q < Q ∧ P t q) R with h | ⟨t, h1, ⟨q0, h2, h3⟩, h4⟩
  · exact ⟨none, fun t q ht hq hp => h t ht ⟨q, hq, hp⟩⟩
  · rcases fst1 (P t) Q with g | ⟨q, g1, g2, g3⟩
    · exact absurd h3 (g q0 h2)
    · exact ⟨some (t, q), h1, g1, g2, fun t' q' ht hq hp => h4 t' ht ⟨q', hq, hp⟩, g3⟩
noncomputable def cq0 : Nat → Nat → Nat → Nat → Nat := fun _ _ _ _ => 0
noncomputable def cqT (t0 a w0 k0 : Nat) : Nat → Nat → Nat → Nat → Nat := fun t x w k => if t = t0 then c1 a w0 k0 x w k else 0
theorem nI_divL {a n : Nat} (ha : a < 2 ^ 31) (hn : (OfNat.ofNat n : Nat) < 2 ^ 31) : nI a / (no_index (OfNat.ofNat n : Int32)) = nI (a / OfNat.ofNat n) := nI_div (b := n) ha hn
section EXM2
variable {E : aEnv} {c m : Nat} {ah : aHp} {ma : Nat → Nat} {v : Nat → Value} {ai : Nat → Nat → Int32} {al : Nat → Nat → Int64} {e axx whh : Nat} {r : Nat → Nat}
theorem MC_none (h : MO E ah m ma) (h1 : v 18 = .int (-1)) {t : Nat} (ht : t ≤ 60) : MC E c ah m ma v ai al e t axx whh 1 (cq0 t) := by
  refine ⟨fun x w k => by simp [cq0], fun F Z x w k K hK hx hw hk => e221 ?_⟩
  have z : ¬ (-1 : Int32) = nI t := fun y => by
    have := congrArg Int32.toInt y
    rw [nI_toInt (by omega)] at this
    have e : (-1 : Int32).toInt = -1 := rfl
    omega
  simp (disch := first | assumption | omega | decide | (simp only [List.length_cons, List.length_nil, Nat.reduceAdd, Nat.reduceLT]; done) | fail) only [r221_0, r221_2, r221_5, r221_6, r221_9, r221_10, r221_13, r221_14, r221_17, r221_18, r221_21, r221_22, r221_25, r221_27, r221_30, r221_31, r221_34, r221_36, r221_39, r221_40, r221_43, r221_44, mh_o h, gm_18, h1, WPo_some, List.getElem?_cons_succ, List.getElem?_cons_zero, kil_n, kil_i, kil_a, kil_u, kil_l, Option.toList_some, Option.toList_none, List.cons_append, List.nil_append, List.set_cons_succ, List.set_cons_zero, addm1, Nat.reduceAdd, List.length_cons, List.length_nil, Nat.reduceLT, not_true_eq_false, not_false_eq_true, if_true, if_false, or_self, and_self, true_and, and_true, or_true, true_or, false_or, or_false, false_and, and_false, z, cq0, show ¬ (1 : Int32) = 0 by decide]
  rfl
theorem MC_try (h : MO E ah m ma) {t0 a w0 k0 : Nat} (h1 : v 18 = .int (nI t0)) (h2 : v 19 = .int (nI a)) (h3 : v 20 = .int (nI w0)) (h4 : v 21 = .int (nI k0)) (b0 : t0 ≤ 60) (b1 : a < 7) (b2 : w0 < 12) (b3 : k0 ≤ 2) (h7 : axx ≤ 7) (h12 : whh ≤ 12) {t : Nat} (ht : t ≤ 60) : MC E c ah m ma v ai al e t axx whh 1 (cqT t0 a w0 k0 t) := by
  have hb : ∀ x w k, cqT t0 a w0 k0 t x w k ≤ 20 := fun x w k => by
    unfold cqT c1
    split
    · split <;> omega
    · omega
  refine ⟨hb, fun F Z x w k K hK hx hw hk => ?_⟩
  subst hK
  have k1 := m_misd1 (c := c) (v := v) (ai := iu (iu ai 10 F) 17 Z) (al := al) (e := nI e) (t := nI t) (x := nI x) (w := nI w) (k := nI k) h h1 h2 h3 h4
  have e1 : (if nI t0 = nI t ∧ nI a = nI x ∧ nI w0 = nI w ∧ nI k0 = nI k then (1 : Int32) else 0) = nI (cqT t0 a w0 k0 t x w k) := by
    simp (disch := first | assumption | omega | decide | (simp only [List.length_cons, List.length_nil, Nat.reduceAdd, Nat.reduceLT]; done) | fail) only [nI_eqE]
    unfold cqT c1
    by_cases z : t0 = t ∧ a = x ∧ w0 = w ∧ k0 = k
    · rw [if_pos z, if_pos z.1.symm, if_pos ⟨z.2.1.symm, z.2.2.1.symm, z.2.2.2.symm⟩]
      rfl
    · rw [if_neg z]
      by_cases y : t = t0
      · rw [if_pos y, if_neg (fun q => z ⟨y.symm, q.1.symm, q.2.1.symm, q.2.2.symm⟩)]
        rfl
      · rw [if_neg y]
        rfl
  rw [e1] at k1
  exact k1
theorem cqT_last {t0 a w0 k0 : Nat} (ha : a + 1 < axx) : ∀ t w, cqT t0 a w0 k0 t (axx - 1) w 0 = 0 := fun t w => by
  unfold cqT c1
  split
  · rw [if_neg (by omega)]
  · rfl
noncomputable def frV (v v' : Nat → Value) : Prop := ∀ k, ¬ (18 ≤ k ∧ k ≤ 21) → v' k = v k
noncomputable def frA (ai ai' : Nat → Nat → Int32) : Prop := ∀ k, ¬ (k = 11 ∨ k = 17) → ai' k = ai k
noncomputable def tryP (ax wh : Nat) (r : Nat → Nat) (fg : Nat → Nat → Nat) (s : Int32) (N : Nat → Int64) (R : Nat) (t q : Nat) : Prop := shw ax wh r (cqT (t + 1) (q / (3 * wh)) (q / 3 % wh) (q % 3)) fg s N R
theorem l_exI (h : MO E ah m ma) {j R : Nat} {sr : Nat → Int32} {mn : Nat → Nat} {tn : Nat → Nat → Int64} (hj : j < 4) (hne : ¬ sr j = -1) (hR : R ≤ mn j) (hR60 : R ≤ 60) {fg : Nat → Nat → Nat} (hq : EQ ai e axx whh r) (hT : TM ai al sr mn tn) (hF : EF (ai 10) e axx whh r fg) {t : Nat} (ht : t < R) {Q : Option Value → aHp → Prop} (K : (∀ q, q < 3 * (axx - 1) * whh → ¬ tryP axx whh r fg (sr j) (tn j) R t q) → ∀ v' ai' l5, frV v v' → frA ai ai' → WP E (c + 4) 229 176 [some (.ref m), some (.int (nI e)), some (.int (nI j)), some (.int (nI R)), some (.int (nI (t + 1))), l5] [] (mh E ah m ma v' ai' al) Q)
    (G : ∀ q v' ai', q < 3 * (axx - 1) * whh → tryP axx whh r fg (sr j) (tn j) R t q → (∀ q', q' < q → ¬ tryP axx whh r fg (sr j) (tn j) R t q') → frV v v' → frA ai ai' → Q (some (.int 1)) (mh E ah m ma (vu (vu (vu (vu v' 22 (.int (nI (t + 1)))) 23 (.int (nI (q / (3 * whh))))) 24 (.int (nI (q / 3 % whh)))) 25 (.int (nI (q % 3)))) ai' al)) :
    ∀ z q v' ai', q + z = 3 * (axx - 1) * whh → (∀ q', q' < q → ¬ tryP axx whh r fg (sr j) (tn j) R t q') → frV v v' → frA ai ai' → WP E (c + 4) 229 59 [some (.ref m), some (.int (nI e)), some (.int (nI j)), some (.int (nI R)), some (.int (nI (t + 1))), some (.int (nI q))] [] (mh E ah m ma v' ai' al) Q
  | 0, q, v', ai', hz, hn, hv, ha => by
    have K := K (fun q' hq' => hn q' (by omega)) v' ai' (some (.int (nI q))) hv ha
    obtain ⟨q1, q2, q3, q4, q5⟩ := hq
    have b1 : 3 * (axx - 1) * whh ≤ 3 * 6 * 12 := Nat.mul_le_mul (by omega) q2.2.2.2
    have a6 : ai' 6 e = nI axx := by rw [ha 6 (by omega)]; exact q3
    have a7 : ai' 7 e = nI whh := by rw [ha 7 (by omega)]; exact q4
    rw [show q = 3 * (axx - 1) * whh by omega] at K ⊢
    rw [r229_59]
    simp (disch := first | assumption | omega | decide | (simp only [List.length_cons, List.length_nil, Nat.reduceAdd, Nat.reduceLT]; done) | fail) only [r229_61, r229_62, r229_63, r229_66, r229_67, r229_68, r229_69, r229_70, r229_71, r229_72, r229_75, r229_76, r229_77, r229_78, mh_o h, gm_6, gm_7, WPo_some, List.getElem?_cons_succ, List.getElem?_cons_zero, kil_n, kil_i, kil_a, kil_u, kil_l, Option.toList_some, Option.toList_none, List.cons_append, List.nil_append, List.set_cons_succ, List.set_cons_zero, addm1, Nat.reduceAdd, List.length_cons, List.length_nil, Nat.reduceLT, gI, hm_6 h, hm_7 h, a6, a7, nI_clamp, nI_toInt, nI_leL, nI_Lle, nI_ltL, nI_Llt, nI_eqL, nI_Leq, nI_leE, nI_ltE, nI_eqE, nI_eqM, nI_add, nI_addL, nI_Ladd, nI_mulL, nI_Lmul, pk_mul, pk_sub, nI_subL, nI_Lsub, i2l_nI, Int.toNat_natCast, Nat.not_lt_zero, Nat.zero_le, ifT, ifF, not_true_eq_false, not_false_eq_true, if_true, if_false, or_self, and_self, true_and, and_true, or_true, true_or, false_or, or_false, false_and, and_false, Nat.le_refl]
    exact K
  | z + 1, q, v', ai', hz, hn, hv, ha => by
    have hq0 := hq
    obtain ⟨q1, q2, q3, q4, q5⟩ := hq
    have b1 : 3 * (axx - 1) * whh ≤ 3 * 6 * 12 := Nat.mul_le_mul (by omega) q2.2.2.2
    have b2 : 3 * whh ≤ 36 := by omega
    have a6 : ai' 6 e = nI axx := by rw [ha 6 (by omega)]; exact q3
    have a7 : ai' 7 e = nI whh := by rw [ha 7 (by omega)]; exact q4
    have d1 : q / 3 / whh * whh ≤ q / 3 := Nat.div_mul_le_self _ _
    have d2 : q / 3 - q / 3 / whh * whh = q / 3 % whh := by
      have := Nat.div_add_mod (q / 3) whh
      rw [Nat.mul_comm] at this
      omega
    have d3 : q / 3 * 3 ≤ q := Nat.div_mul_le_self _ _
    have d4 : q - q / 3 * 3 = q % 3 := by omega
    have w1 : q / (3 * whh) < axx - 1 := Nat.div_lt_of_lt_mul (by
      have e1 : 3 * whh * (axx - 1) = 3 * (axx - 1) * whh := by rw [Nat.mul_assoc, Nat.mul_comm whh, ← Nat.mul_assoc]
      rw [e1]
      omega)
    have w2 : q / 3 % whh < whh := Nat.mod_lt _ (by omega)
    have w3 : q % 3 ≤ 2 := by omega
    have y1 : ¬ nI whh = 0 := by rw [nI_eqL (by omega) (by decide)]; omega
    have y2 : ¬ nI (3 * whh) = 0 := by rw [nI_eqL (by omega) (by decide)]; omega
    have y3 : ¬ (3 : Int32) = 0 := by decide
    obtain ⟨v2, hv2⟩ : ∃ v2, v2 = vu (vu (vu (vu v' 18 (.int (nI (t + 1)))) 19 (.int (nI (q / (3 * whh))))) 20 (.int (nI (q / 3 % whh)))) 21 (.int (nI (q % 3))) := ⟨_, rfl⟩
    have g18 : v2 18 = .int (nI (t + 1)) := by rw [hv2]; rfl
    have g19 : v2 19 = .int (nI (q / (3 * whh))) := by rw [hv2]; rfl
    have g20 : v2 20 = .int (nI (q / 3 % whh)) := by rw [hv2]; rfl
    have g21 : v2 21 = .int (nI (q % 3)) := by rw [hv2]; rfl
    have hv3 : frV v v2 := fun k hk => by
      rw [hv2, vu_ne (by omega), vu_ne (by omega), vu_ne (by omega), vu_ne (by omega)]
      exact hv k hk
    obtain ⟨C, Z, k1⟩ := m_shows (c := c) (v := v2) (ai := ai') (al := al) h (fun ai al t' h1 h2 => MC_try h g18 g19 g20 g21 (by omega) (by omega) (by omega) w3 q2.2.1 q2.2.2.2 h2) (cqT_last (by omega)) hj hne hR hR60 (fg := fg) (EQ_fr hq0 (fun k hk => ha k (by omega))) (TM_fr hT (fun k hk => ha k (by omega)) rfl) (by rw [ha 10 (by omega)]; exact hF)
    have ha2 : frA ai (iu (iu ai' 11 C) 17 Z) := fun k hk => by
      rw [iu_ne (by omega), iu_ne (by omega)]
      exact ha k hk
    rw [hv2] at k1
    rw [r229_59]
    by_cases ok : tryP axx whh r fg (sr j) (tn j) R t q
    · have okb := bC_t ok
      unfold tryP at okb
      rw [okb] at k1
      have g := G q v2 (iu (iu ai' 11 C) 17 Z) (by omega) ok hn hv3 ha2
      rw [hv2] at g
      simp (disch := first | assumption | omega | decide | (simp only [List.length_cons, List.length_nil, Nat.reduceAdd, Nat.reduceLT]; done) | fail) only [r229_61, r229_62, r229_63, r229_66, r229_67, r229_68, r229_69, r229_70, r229_71, r229_72, r229_75, r229_76, r229_77, r229_78, r229_81, r229_82, r229_84, r229_87, r229_88, r229_90, r229_91, r229_92, r229_95, r229_96, r229_97, r229_99, r229_102, r229_103, r229_105, r229_107, r229_108, r229_111, r229_112, r229_114, r229_117, r229_118, r229_120, r229_122, r229_125, r229_98, r229_106, r229_113, r229_121, q229_129 k1 h.ci, mh_o h, mh_put h, gm_6, gm_7, gm_19, gm_20, gm_21, pm_18, pm_19, pm_20, pm_21, pm_22, pm_23, pm_24, pm_25, WPo_some, List.getElem?_cons_succ, List.getElem?_cons_zero, kil_n, kil_i, kil_a, kil_u, kil_l, Option.toList_some, Option.toList_none, List.cons_append, List.nil_append, List.set_cons_succ, List.set_cons_zero, addm1, Nat.reduceAdd, List.length_cons, List.length_nil, Nat.reduceLT, gI, hm_6 h, hm_7 h, a6, a7, nI_div, nI_divL, d2, d4, nI_clamp, nI_toInt, nI_leL, nI_Lle, nI_ltL, nI_Llt, nI_eqL, nI_Leq, nI_leE, nI_ltE, nI_eqE, nI_eqM, nI_add, nI_addL, nI_Ladd, nI_mulL, nI_Lmul, pk_mul, pk_sub, nI_subL, nI_Lsub, i2l_nI, Int.toNat_natCast, Nat.not_lt_zero, Nat.zero_le, ifT, ifF, not_true_eq_false, not_false_eq_true, if_true, if_false, or_self, and_self, true_and, and_true, or_true, true_or, false_or, or_false, false_and, and_false, vu_at, vu_ne, r229_126, r229_127, r229_128, r229_132, r229_135, r229_138, r229_139, r229_141, r229_144, r229_145, r229_146, r229_149, r229_152, r229_153, r229_154, r229_157, r229_160, r229_161, r229_162, r229_165, r229_168, r229_169]
      exact g
    · have okb := bC_f ok
      unfold tryP at okb
      rw [okb] at k1
      have ih := l_exI h hj hne hR hR60 hq0 hT hF ht K G z (q + 1) v2 (iu (iu ai' 11 C) 17 Z) (by omega) (fun q' hq' => by
        by_cases y : q' = q
        · rw [y]; exact ok
        · exact hn q' (by omega)) hv3 ha2
      rw [hv2] at ih
      simp (disch := first | assumption | omega | decide | (simp only [List.length_cons, List.length_nil, Nat.reduceAdd, Nat.reduceLT]; done) | fail) only [r229_61, r229_62, r229_63, r229_66, r229_67, r229_68, r229_69, r229_70, r229_71, r229_72, r229_75, r229_76, r229_77, r229_78, r229_81, r229_82, r229_84, r229_87, r229_88, r229_90, r229_91, r229_92, r229_95, r229_96, r229_97, r229_99, r229_102, r229_103, r229_105, r229_107, r229_108, r229_111, r229_112, r229_114, r229_117, r229_118, r229_120, r229_122, r229_125, r229_98, r229_106, r229_113, r229_121, q229_129 k1 h.ci, mh_o h, mh_put h, gm_6, gm_7, pm_18, pm_19, pm_20, pm_21, WPo_some, List.getElem?_cons_succ, List.getElem?_cons_zero, kil_n, kil_i, kil_a, kil_u, kil_l, Option.toList_some, Option.toList_none, List.cons_append, List.nil_append, List.set_cons_succ, List.set_cons_zero, addm1, Nat.reduceAdd, List.length_cons, List.length_nil, Nat.reduceLT, gI, hm_6 h, hm_7 h, a6, a7, nI_div, nI_divL, d2, d4, nI_clamp, nI_toInt, nI_leL, nI_Lle, nI_ltL, nI_Llt, nI_eqL, nI_Leq, nI_leE, nI_ltE, nI_eqE, nI_eqM, nI_add, nI_addL, nI_Ladd, nI_mulL, nI_Lmul, pk_mul, pk_sub, nI_subL, nI_Lsub, i2l_nI, Int.toNat_natCast, Nat.not_lt_zero, Nat.zero_le, ifT, ifF, not_true_eq_false, not_false_eq_true, if_true, if_false, or_self, and_self, true_and, and_true, or_true, true_or, false_or, or_false, false_and, and_false, r229_126, r229_127, r229_128, r229_132, r229_135, r229_170, r229_173]
      exact ih
end EXM2

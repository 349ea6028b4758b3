/-! The model's cards: a whole card -/
theorem isk {k : Nat} (hk : k ≤ 8) : ((1 : Int64) ≤ (nI k).toInt64 ∧ (nI k).toInt64 ≤ 4) = (1 ≤ k ∧ k ≤ 4) := by
  simp only [i64_le, i2l_nI (show k < 2 ^ 31 by omega)]
  have e1 : (1 : Int64).toInt = 1 := rfl
  have e2 : (4 : Int64).toInt = 4 := rfl
  apply propext
  omega
/-- places that are within -/
noncomputable def bB (f : Nat → Int32) : Prop := ∀ q, ∃ y, y ≤ 19 ∧ f q = nI y
theorem bB_upd {f : Nat → Int32} {k y : Nat} (h : bB f) (hy : y ≤ 19) : bB (upd f k (nI y)) := fun q => by
  by_cases z : q = k
  · exact ⟨y, hy, by rw [z, upd_at]⟩
  · rw [upd_ne z]
    exact h q
theorem rdM_19 {T : Nat → Int32} {n : Nat} {s : aPs} : (rdM T n 0 19 s).1 ≤ 19 := by
  unfold rdM
  split
  · exact rdN_19
  · exact Nat.zero_le _
section MRD
variable {E : aEnv} {c m : Nat} {ah : aHp} {ma : Nat → Nat} {v : Nat → Value} {ai : Nat → Nat → Int32} {al : Nat → Nat → Int64} {T : Nat → Int32} {n : Nat}
theorem m_readCard (h : MO E ah m ma) (hT : ai 28 = T) (hn : n ≤ 500) {p : Nat} (hp : p ≤ n) (hc : cdM v T n (gon p)) (hk : ¬ kdN T n p = 8) {cn : Nat} (hcn : cn < 40) (h42 : v 42 = .int (nI cn)) : ∃ v' ai' al', EV E (c + 5) 247 [.ref m] (mh E ah m ma v ai al) none (mh E ah m ma v' ai' al') ∧ cdM v' T n (rdC T n p).1 ∧ v' 42 = .int (nI (if (rdC T n p).1.2.1 = 0 then cn + 1 else cn)) ∧ (∀ k, ¬ (33 ≤ k ∧ k ≤ 40) → k ≠ 42 → v' k = v k) ∧ mkA ai ai' al al' cn ∧ ((rdC T n p).1.2.1 = 0 → mkI ai' al' cn (rdC T n p).2) ∧ (bB (ai 51) → bB (ai' 51)) := by
  have h8 := kdN_le (T := T) (n := n) (p := p)
  have hE1 := nxE_le (T := T) hp
  have k0 := m_cardKind (E := E) (c := c + 3) (ai := ai) (al := al) h hc
  rw [show (gon p).1 = p from rfl, if_neg hk] at k0
  have h33 : v 33 = .int 0 := hc.2.1
  generalize hK : kdN T n p = K at *
  let ai1 := iu (iu ai 49 (upd (ai 49) cn (nI K))) 54 (upd (ai 54) cn 0)
  let al1 := lu al 57 (vp_updL (al 57) cn 0)
  have A49 : ai1 49 = upd (ai 49) cn (nI K) := by show iu (iu ai 49 _) 54 _ 49 = _; rw [iu_ne (by decide), iu_at]
  have A54 : ai1 54 = upd (ai 54) cn 0 := iu_at
  have An : ∀ k, k ≠ 49 → k ≠ 54 → ai1 k = ai k := fun k h1 h2 => by show iu (iu ai 49 _) 54 _ k = _; rw [iu_ne h2, iu_ne h1]
  have B57 : al1 57 = vp_updL (al 57) cn 0 := lu_at
  have Bn : ∀ k, k ≠ 57 → al1 k = al k := fun k h1 => lu_ne h1
  have hT1 : ai1 28 = T := by rw [An 28 (by decide) (by decide)]; exact hT
  obtain ⟨v1, kn, c1, f1⟩ := m_nextP (E := E) (c := c + 2) (v := v) (ai := ai1) (al := al1) h hT1 hn hp hc
  have g42 : v1 42 = .int (nI cn) := by rw [f1 42 (by omega), h42]
  -- up to the split
  have head : ∀ Q, WP E (c + 5) 247 76 [some (.ref m), some (.int (nI K)), some (.int (nI cn))] [] (mh E ah m ma v1 ai1 al1) Q → WP E (c + 5) 247 0 [some (.ref m), none, none] [] (mh E ah m ma v ai al) Q := by
    intro Q w
    have e1 : iu (iu ai 49 (upd (ai 49) cn (nI K))) 54 (upd (ai 54) cn 0) = ai1 := rfl
    have e2 : lu al 57 (vp_updL (al 57) cn 0) = al1 := rfl
    simp (disch := first | assumption | omega | decide | (simp only [List.length_cons, List.length_nil, Nat.reduceAdd, Nat.reduceLT]; done) | fail) only [r247_0, r247_4, r247_5, r247_6, r247_9, r247_13, r247_14, r247_17, r247_20, r247_21, r247_24, r247_26, r247_29, r247_30, r247_31, r247_32, r247_38, r247_39, r247_42, r247_45, r247_46, r247_47, r247_50, r247_51, r247_52, r247_55, r247_56, r247_57, r247_58, r247_59, r247_62, r247_63, r247_64, r247_65, r247_66, r247_69, r247_70, r247_71, r247_72, mh_o h, gm_33, gm_42, gm_49, gm_54, gm_57, h33, h42, pI, pL, hm_49 h, sm_49 h, hm_54 h, sm_54 h, hm_57 h, sm_57 h, iu_ne, e1, e2, q247_1 k0 h.ci, q247_73 kn h.ci, show ¬ cn = 40 by omega, show (0 : Int32) ≤ 0 by decide, WPo_some, List.getElem?_cons_succ, List.getElem?_cons_zero, kil_n, kil_i, kil_a, kil_u, kil_l, Option.toList_some, Option.toList_none, List.cons_append, List.nil_append, List.set_cons_succ, List.set_cons_zero, addm1, Nat.reduceAdd, List.length_cons, List.length_nil, Nat.reduceLT, nI_clamp, nI_toInt, nI_leL, nI_Lle, nI_ltL, nI_Llt, nI_eqL, nI_Leq, nI_leE, nI_ltE, nI_eqE, nI_eqM, nI_add, nI_addL, nI_Ladd, nI_mulL, nI_Lmul, pk_mul, pk_sub, nI_subL, nI_Lsub, i2l_nI, Int.toNat_natCast, Nat.not_lt_zero, Nat.zero_le, ifT, ifF, not_true_eq_false, not_false_eq_true, if_true, if_false, or_self, and_self, true_and, and_true, or_true, true_or, false_or, or_false, false_and, and_false]
    exact w
  by_cases y : K = 6 ∨ K = 7
  · have eC : rdC T n p = (tkC T n 3 (rdJ T n (rdN T n 1 40 (nxE T n p)).2).2, (K, (rdJ T n (rdN T n 1 40 (nxE T n p)).2).1, (fun _ => (rdN T n 1 40 (nxE T n p)).1), nxS T n (nxE T n p), 0)) := by
      unfold rdC
      rw [hK, if_pos y]
    have gj := G_J (T := T) (n := n) (s := (rdN T n 1 40 (nxE T n p)).2)
    obtain ⟨v2, k2, c2, f2⟩ := m_readJump (E := E) (c := c) (v := v1) (ai := ai1) (al := al1) h hT1 hn hE1.2 c1 hcn (by rw [A54, upd_at])
    obtain ⟨v3, k3, c3, d3, f3⟩ := l_me (E := E) (c := c + 2) (v := v2) (ai := iu (iu (iu ai1 55 (upd (ai1 55) cn (nI (nxS T n (nxE T n p))))) 50 (upd (ai1 50) cn (nI (rdN T n 1 40 (nxE T n p)).1))) 54 (upd (ai1 54) cn (nI (rdG T n (rdN T n 1 40 (nxE T n p)).2).1))) (al := al1) h (by rw [iu_ne (by decide), iu_ne (by decide), iu_ne (by decide)]; exact hT1) hn (ok_rdG (ok_rdN hE1.2)) c2 (cn := cn) (by rw [f2 42 (by omega), g42]) (l1 := some (.int (nI K))) (l2 := some (.int (nI cn)))
    rw [gj.1] at c3 d3
    refine ⟨v3, iu (iu (iu ai1 55 (upd (ai1 55) cn (nI (nxS T n (nxE T n p))))) 50 (upd (ai1 50) cn (nI (rdN T n 1 40 (nxE T n p)).1))) 54 (upd (ai1 54) cn (nI (rdG T n (rdN T n 1 40 (nxE T n p)).2).1)), al1, e247 (head _ ?_), by rw [eC]; exact c3, by rw [eC]; exact d3, fun k q1 q2 => by rw [f3 k q1 q2, f2 k q1, f1 k q1], ⟨fun k q hq => ?_, fun k q hq => ?_⟩, fun hf => ?_, fun hB => ?_⟩
    · by_cases y6 : K = 6
      · simp (disch := first | assumption | omega | decide | (simp only [List.length_cons, List.length_nil, Nat.reduceAdd, Nat.reduceLT]; done) | fail) only [r247_76, r247_77, r247_79, r247_82, r247_83, r247_85, r247_88, r247_89, r247_93, eq_true y6, q247_90 k2 h.ci, WPo_some, List.getElem?_cons_succ, List.getElem?_cons_zero, kil_n, kil_i, kil_a, kil_u, kil_l, Option.toList_some, Option.toList_none, List.cons_append, List.nil_append, List.set_cons_succ, List.set_cons_zero, addm1, Nat.reduceAdd, List.length_cons, List.length_nil, Nat.reduceLT, nI_clamp, nI_toInt, nI_leL, nI_Lle, nI_ltL, nI_Llt, nI_eqL, nI_Leq, nI_leE, nI_ltE, nI_eqE, nI_eqM, nI_add, nI_addL, nI_Ladd, nI_mulL, nI_Lmul, pk_mul, pk_sub, nI_subL, nI_Lsub, i2l_nI, Int.toNat_natCast, Nat.not_lt_zero, Nat.zero_le, ifT, ifF, not_true_eq_false, not_false_eq_true, if_true, if_false, or_self, and_self, true_and, and_true, or_true, true_or, false_or, or_false, false_and, and_false]
        exact k3
      · have y7 : K = 7 := by omega
        simp (disch := first | assumption | omega | decide | (simp only [List.length_cons, List.length_nil, Nat.reduceAdd, Nat.reduceLT]; done) | fail) only [r247_76, r247_77, r247_79, r247_82, r247_83, r247_85, r247_88, r247_89, r247_93, y6, eq_true y7, q247_90 k2 h.ci, WPo_some, List.getElem?_cons_succ, List.getElem?_cons_zero, kil_n, kil_i, kil_a, kil_u, kil_l, Option.toList_some, Option.toList_none, List.cons_append, List.nil_append, List.set_cons_succ, List.set_cons_zero, addm1, Nat.reduceAdd, List.length_cons, List.length_nil, Nat.reduceLT, nI_clamp, nI_toInt, nI_leL, nI_Lle, nI_ltL, nI_Llt, nI_eqL, nI_Leq, nI_leE, nI_ltE, nI_eqE, nI_eqM, nI_add, nI_addL, nI_Ladd, nI_mulL, nI_Lmul, pk_mul, pk_sub, nI_subL, nI_Lsub, i2l_nI, Int.toNat_natCast, Nat.not_lt_zero, Nat.zero_le, ifT, ifF, not_true_eq_false, not_false_eq_true, if_true, if_false, or_self, and_self, true_and, and_true, or_true, true_or, false_or, or_false, false_and, and_false]
        exact k3
    · by_cases z4 : k = 54
      · subst z4
        have hq : q ≠ cn := by rcases hq with hq | hq; exact absurd (by omega) hq; exact hq
        rw [iu_at, upd_ne hq, A54, upd_ne hq]
      · rw [iu_ne z4]
        by_cases z5 : k = 50
        · subst z5
          have hq : q ≠ cn := by rcases hq with hq | hq; exact absurd (by omega) hq; exact hq
          rw [iu_at, upd_ne hq, An 50 (by decide) (by decide)]
        · rw [iu_ne z5]
          by_cases z6 : k = 55
          · subst z6
            have hq : q ≠ cn := by rcases hq with hq | hq; exact absurd (by omega) hq; exact hq
            rw [iu_at, upd_ne hq, An 55 (by decide) (by decide)]
          · rw [iu_ne z6]
            by_cases z7 : k = 49
            · subst z7
              have hq : q ≠ cn := by rcases hq with hq | hq; exact absurd (by omega) hq; exact hq
              rw [A49, upd_ne hq]
            · rw [An k z7 z4]
    · by_cases z4 : k = 57
      · subst z4
        have hq : q ≠ cn := by rcases hq with hq | hq; exact absurd rfl hq; exact hq
        rw [B57, vup_ne hq]
      · rw [Bn k z4]
    · rw [eC] at hf ⊢
      have pl0 : plc K = 0 := by rcases y with y | y <;> rw [y] <;> rfl
      refine ⟨?_, ?_, fun z => ?_, fun z => ?_, fun z => ?_, fun z => ?_, fun _ => ⟨?_, ?_⟩, fun z => ?_⟩
      · rw [iu_ne (by decide), iu_ne (by decide), iu_ne (by decide), A49, upd_at]
      · rw [iu_at, upd_at]; exact congrArg nI (gj.2 hf)
      · exact absurd (show 0 < plc K from z) (by omega)
      · exact absurd (show 1 < plc K from z) (by omega)
      · exact absurd (show 2 < plc K from z) (by omega)
      · exact absurd (show 3 < plc K from z) (by omega)
      · rw [iu_ne (by decide), iu_at, upd_at]
      · rw [iu_ne (by decide), iu_ne (by decide), iu_at, upd_at]
      · exact absurd (show K = 0 from z) (by omega)
    · rw [iu_ne (by decide), iu_ne (by decide), iu_ne (by decide), An 51 (by decide) (by decide)]; exact hB
  · have y6 : ¬ K = 6 := fun z => y (Or.inl z)
    have y7 : ¬ K = 7 := fun z => y (Or.inr z)
    obtain ⟨v2, k2, c2, f2⟩ := m_count (E := E) (c := c + 1) (v := v1) (ai := ai1) (al := al1) h hT1 hn (ok_gon hE1.2) c1 (lo := 0) (hi := 19) (by decide) (by decide)
    rw [show nI 0 = (0 : Int32) from rfl, show nI 19 = (19 : Int32) from rfl] at k2
    have o1 := ok_rdM (T := T) (lo := 0) (hi := 19) (ok_gon hE1.2)
    let s1 := rdM T n 0 19 (gon (nxE T n p))
    let ai2 := iu ai1 50 (upd (ai1 50) cn (nI s1.1))
    have hT2 : ai2 28 = T := by show iu ai1 50 _ 28 = T; rw [iu_ne (by decide)]; exact hT1
    have g2 : v2 42 = .int (nI cn) := by rw [f2 42 (by omega), g42]
    have e2 : iu ai1 50 (upd (ai1 50) cn (nI (rdM T n 0 19 (gon (nxE T n p))).1)) = ai2 := rfl
    have C49 : ai2 49 = upd (ai 49) cn (nI K) := by show iu ai1 50 _ 49 = _; rw [iu_ne (by decide), A49]
    have C54 : ai2 54 = upd (ai 54) cn 0 := by show iu ai1 50 _ 54 = _; rw [iu_ne (by decide), A54]
    have C50 : ai2 50 = upd (ai 50) cn (nI s1.1) := by show iu ai1 50 _ 50 = _; rw [iu_at, An 50 (by decide) (by decide)]
    have Cn : ∀ k, k ≠ 49 → k ≠ 54 → k ≠ 50 → ai2 k = ai k := fun k q1 q2 q3 => by show iu ai1 50 _ k = _; rw [iu_ne q3, An k q1 q2]
    have mA2 : ∀ al', (∀ k q, (¬ k = 57 ∨ q ≠ cn) → al' k q = al k q) → mkA ai ai2 al al' cn := fun al' hal => ⟨fun k q hq => by
      by_cases z4 : k = 54
      · subst z4
        have hq : q ≠ cn := by rcases hq with hq | hq; exact absurd (by omega) hq; exact hq
        rw [C54, upd_ne hq]
      · by_cases z5 : k = 50
        · subst z5
          have hq : q ≠ cn := by rcases hq with hq | hq; exact absurd (by omega) hq; exact hq
          rw [C50, upd_ne hq]
        · by_cases z7 : k = 49
          · subst z7
            have hq : q ≠ cn := by rcases hq with hq | hq; exact absurd (by omega) hq; exact hq
            rw [C49, upd_ne hq]
          · rw [Cn k z7 z4 z5], hal⟩
    have al1A : ∀ k q, (¬ k = 57 ∨ q ≠ cn) → al1 k q = al k q := fun k q hq => by
      by_cases z4 : k = 57
      · subst z4
        have hq : q ≠ cn := by rcases hq with hq | hq; exact absurd rfl hq; exact hq
        rw [B57, vup_ne hq]
      · rw [Bn k z4]
    by_cases y0 : K = 0
    · have eP := rdP_M (T := T) (n := n) (z := 0) (i := 0) (s := gon (nxE T n p)) (f := fun _ => 0)
      have eP2 : (rdP T n 1 0 (gon (nxE T n p)) (fun _ => 0)).2 = s1.2 := eP.1
      have eC : rdC T n p = (tkC T n 3 (rdW T n (rdP T n 1 0 (gon (nxE T n p)) (fun _ => 0)).2).2, (0, 0, (rdP T n 1 0 (gon (nxE T n p)) (fun _ => 0)).1, 0, (rdW T n (rdP T n 1 0 (gon (nxE T n p)) (fun _ => 0)).2).1)) := by
        unfold rdC
        rw [hK, if_neg y, if_pos y0]
      rw [eP2] at eC
      obtain ⟨v3, W', k3, c3, f3, w1, w2⟩ := m_readWhole (E := E) (c := c + 1) (v := v2) (ai := ai2) (al := al1) h hT2 hn o1 c2 hcn
      obtain ⟨v4, k4, c4, d4, f4⟩ := l_me (E := E) (c := c + 2) (v := v3) (ai := ai2) (al := lu al1 57 W') h hT2 hn (ok_rdW o1) c3 (cn := cn) (by rw [f3 42 (by omega), g2]) (l1 := some (.int (nI K))) (l2 := some (.int (nI cn)))
      refine ⟨v4, ai2, lu al1 57 W', e247 (head _ ?_), by rw [eC]; exact c4, by rw [eC]; exact d4, fun k q1 q2 => by rw [f4 k q1 q2, f3 k q1, f2 k q1, f1 k q1], mA2 _ (fun k q hq => ?_), fun hf => ?_, fun hB => by rw [Cn 51 (by decide) (by decide) (by decide)]; exact hB⟩
      · have n1 : ¬ (1 ≤ K ∧ K ≤ 4) := by omega
        have n4 : ¬ K = 4 := by omega
        simp (disch := first | assumption | omega | decide | (simp only [List.length_cons, List.length_nil, Nat.reduceAdd, Nat.reduceLT]; done) | fail) only [r247_76, r247_77, r247_79, r247_82, r247_83, r247_85, r247_88, r247_89, r247_93, r247_96, r247_97, r247_100, r247_101, r247_102, r247_103, r247_108, r247_109, r247_110, r247_113, r247_114, r247_118, r247_119, r247_120, r247_121, r247_127, r247_130, r247_131, r247_134, r247_135, r247_136, r247_137, r247_142, r247_143, r247_144, r247_145, r247_146, r247_152, r247_155, r247_156, r247_159, r247_160, r247_161, r247_162, r247_167, r247_168, r247_169, r247_170, r247_173, mh_o h, gm_50, pI, hm_50 h, sm_50 h, e2, y6, y7, eq_true y0, q247_105 k2 h.ci, q247_115 k3 h.ci, q247_124 m_isIn, q247_149 m_isIn, isk h8, n1, n4, b2i_eq0, WPo_some, List.getElem?_cons_succ, List.getElem?_cons_zero, kil_n, kil_i, kil_a, kil_u, kil_l, Option.toList_some, Option.toList_none, List.cons_append, List.nil_append, List.set_cons_succ, List.set_cons_zero, addm1, Nat.reduceAdd, List.length_cons, List.length_nil, Nat.reduceLT, nI_clamp, nI_toInt, nI_leL, nI_Lle, nI_ltL, nI_Llt, nI_eqL, nI_Leq, nI_leE, nI_ltE, nI_eqE, nI_eqM, nI_add, nI_addL, nI_Ladd, nI_mulL, nI_Lmul, pk_mul, pk_sub, nI_subL, nI_Lsub, i2l_nI, Int.toNat_natCast, Nat.not_lt_zero, Nat.zero_le, ifT, ifF, not_true_eq_false, not_false_eq_true, if_true, if_false, or_self, and_self, true_and, and_true, or_true, true_or, false_or, or_false, false_and, and_false]
        exact k4
      · by_cases z4 : k = 57
        · subst z4
          have hq : q ≠ cn := by rcases hq with hq | hq; exact absurd rfl hq; exact hq
          rw [lu_at, w1 q hq, B57, vup_ne hq]
        · rw [lu_ne z4, Bn k z4]
      · rw [eC] at hf ⊢
        have hfW := tkC_0 hf
        have e3 : (rdP T n 1 0 (gon (nxE T n p)) (fun _ => 0)).1 = fnu (fun _ => 0) 0 s1.1 := eP.2 (by
          rw [eP2]
          by_cases w : s1.2.2.1 = 0
          · exact w
          · exfalso
            have e1 : (rdW T n s1.2).2 = s1.2 := by
              unfold rdW rdB tkC
              simp [w]
            rw [e1] at hfW
            exact w hfW)
        refine ⟨?_, ?_, fun z => ?_, fun z => ?_, fun z => ?_, fun z => ?_, fun z => ?_, fun z => ?_⟩
        · rw [C49, upd_at, y0]
        · rw [C54, upd_at]; rfl
        · show ai2 50 cn = nI ((rdP T n 1 0 (gon (nxE T n p)) (fun _ => 0)).1 0)
          rw [C50, upd_at, e3]
          rfl
        · exact absurd (show 1 < plc 0 from z) (by decide)
        · exact absurd (show 2 < plc 0 from z) (by decide)
        · exact absurd (show 3 < plc 0 from z) (by decide)
        · exact absurd (show 0 = 6 ∨ 0 = 7 from z) (by decide)
        · rw [lu_at]; exact w2 hfW
    · have eC : rdC T n p = (tkC T n 3 (rdP T n (plc K) 0 (gon (nxE T n p)) (fun _ => 0)).2, (K, 0, (rdP T n (plc K) 0 (gon (nxE T n p)) (fun _ => 0)).1, 0, 0)) := by
        unfold rdC
        rw [hK, if_neg y, if_neg y0]
      by_cases y5 : K = 5
      · have eP := rdP_M (T := T) (n := n) (z := 0) (i := 0) (s := gon (nxE T n p)) (f := fun _ => 0)
        have eP2 : (rdP T n 1 0 (gon (nxE T n p)) (fun _ => 0)).2 = s1.2 := eP.1
        have pl : plc K = 1 := by rw [y5]; rfl
        rw [pl, eP2] at eC
        obtain ⟨v4, k4, c4, d4, f4⟩ := l_me (E := E) (c := c + 2) (v := v2) (ai := ai2) (al := al1) h hT2 hn o1 c2 (cn := cn) g2 (l1 := some (.int (nI K))) (l2 := some (.int (nI cn)))
        refine ⟨v4, ai2, al1, e247 (head _ ?_), by rw [eC]; exact c4, by rw [eC]; exact d4, fun k q1 q2 => by rw [f4 k q1 q2, f2 k q1, f1 k q1], mA2 _ al1A, fun hf => ?_, fun hB => by rw [Cn 51 (by decide) (by decide) (by decide)]; exact hB⟩
        · have n1 : ¬ (1 ≤ K ∧ K ≤ 4) := by omega
          have n4 : ¬ K = 4 := by omega
          simp (disch := first | assumption | omega | decide | (simp only [List.length_cons, List.length_nil, Nat.reduceAdd, Nat.reduceLT]; done) | fail) only [r247_76, r247_77, r247_79, r247_82, r247_83, r247_85, r247_88, r247_89, r247_93, r247_96, r247_97, r247_100, r247_101, r247_102, r247_103, r247_108, r247_109, r247_110, r247_113, r247_114, r247_118, r247_119, r247_120, r247_121, r247_127, r247_130, r247_131, r247_134, r247_135, r247_136, r247_137, r247_142, r247_143, r247_144, r247_145, r247_146, r247_152, r247_155, r247_156, r247_159, r247_160, r247_161, r247_162, r247_167, r247_168, r247_169, r247_170, r247_173, mh_o h, gm_50, pI, hm_50 h, sm_50 h, e2, y6, y7, y0, q247_105 k2 h.ci, q247_124 m_isIn, q247_149 m_isIn, isk h8, n1, n4, b2i_eq0, WPo_some, List.getElem?_cons_succ, List.getElem?_cons_zero, kil_n, kil_i, kil_a, kil_u, kil_l, Option.toList_some, Option.toList_none, List.cons_append, List.nil_append, List.set_cons_succ, List.set_cons_zero, addm1, Nat.reduceAdd, List.length_cons, List.length_nil, Nat.reduceLT, nI_clamp, nI_toInt, nI_leL, nI_Lle, nI_ltL, nI_Llt, nI_eqL, nI_Leq, nI_leE, nI_ltE, nI_eqE, nI_eqM, nI_add, nI_addL, nI_Ladd, nI_mulL, nI_Lmul, pk_mul, pk_sub, nI_subL, nI_Lsub, i2l_nI, Int.toNat_natCast, Nat.not_lt_zero, Nat.zero_le, ifT, ifF, not_true_eq_false, not_false_eq_true, if_true, if_false, or_self, and_self, true_and, and_true, or_true, true_or, false_or, or_false, false_and, and_false]
          exact k4
        · rw [eC] at hf ⊢
          have hf1 := tkC_0 hf
          have e3 : (rdP T n 1 0 (gon (nxE T n p)) (fun _ => 0)).1 = fnu (fun _ => 0) 0 s1.1 := eP.2 (by rw [eP2]; exact hf1)
          refine ⟨?_, ?_, fun z => ?_, fun z => ?_, fun z => ?_, fun z => ?_, fun z => absurd z y, fun z => absurd z y0⟩
          · rw [C49, upd_at]
          · rw [C54, upd_at]; rfl
          · show ai2 50 cn = nI ((rdP T n 1 0 (gon (nxE T n p)) (fun _ => 0)).1 0)
            rw [C50, upd_at, e3]
            rfl
          · exact absurd (show 1 < plc K from z) (by omega)
          · exact absurd (show 2 < plc K from z) (by omega)
          · exact absurd (show 3 < plc K from z) (by omega)
      · have n1 : 1 ≤ K ∧ K ≤ 4 := by omega
        obtain ⟨v3, k3, c3, f3⟩ := m_count (E := E) (c := c + 1) (v := v2) (ai := ai2) (al := al1) h hT2 hn o1 c2 (lo := 0) (hi := 19) (by decide) (by decide)
        rw [show nI 0 = (0 : Int32) from rfl, show nI 19 = (19 : Int32) from rfl] at k3
        have o2 := ok_rdM (T := T) (lo := 0) (hi := 19) o1
        obtain ⟨s2, hs2⟩ : ∃ s2, rdM T n 0 19 s1.2 = s2 := ⟨_, rfl⟩
        have hs2' : rdM T n 0 19 (rdM T n 0 19 (gon (nxE T n p))).2 = s2 := hs2
        rw [hs2'] at k3 c3 o2
        let ai3 := iu ai2 51 (upd (ai2 51) cn (nI s2.1))
        have e3 : iu ai2 51 (upd (ai2 51) cn (nI s2.1)) = ai3 := rfl
        have hT3 : ai3 28 = T := by show iu ai2 51 _ 28 = T; rw [iu_ne (by decide)]; exact hT2
        obtain ⟨v4, k4, c4, f4⟩ := m_count (E := E) (c := c + 1) (v := v3) (ai := ai3) (al := al1) h hT3 hn o2 c3 (lo := 0) (hi := 19) (by decide) (by decide)
        rw [show nI 0 = (0 : Int32) from rfl, show nI 19 = (19 : Int32) from rfl] at k4
        have o3 := ok_rdM (T := T) (lo := 0) (hi := 19) o2
        obtain ⟨s3, hs3⟩ : ∃ s3, rdM T n 0 19 s2.2 = s3 := ⟨_, rfl⟩
        rw [hs3] at k4 c4 o3
        let ai4 := iu ai3 52 (upd (ai3 52) cn (nI s3.1))
        have e4 : iu ai3 52 (upd (ai3 52) cn (nI s3.1)) = ai4 := rfl
        have hT4 : ai4 28 = T := by show iu ai3 52 _ 28 = T; rw [iu_ne (by decide)]; exact hT3
        have g4 : v4 42 = .int (nI cn) := by rw [f4 42 (by omega), f3 42 (by omega), g2]
        have D52 : ai4 52 = upd (ai 52) cn (nI s3.1) := by show iu (iu ai2 51 _) 52 (upd (iu ai2 51 _ 52) cn _) 52 = _; rw [iu_at, iu_ne (by decide), Cn 52 (by decide) (by decide) (by decide)]
        have D51 : ai4 51 = upd (ai 51) cn (nI s2.1) := by show iu (iu ai2 51 _) 52 _ 51 = _; rw [iu_ne (by decide), iu_at, Cn 51 (by decide) (by decide) (by decide)]
        have Dn : ∀ k, k ≠ 51 → k ≠ 52 → ai4 k = ai2 k := fun k q1 q2 => by show iu (iu ai2 51 _) 52 _ k = _; rw [iu_ne q2, iu_ne q1]
        have mA4 : mkA ai ai4 al al1 cn := ⟨fun k q hq => by
          by_cases z1 : k = 51
          · subst z1
            have hq : q ≠ cn := by rcases hq with hq | hq; exact absurd (by omega) hq; exact hq
            rw [D51, upd_ne hq]
          · by_cases z2 : k = 52
            · subst z2
              have hq : q ≠ cn := by rcases hq with hq | hq; exact absurd (by omega) hq; exact hq
              rw [D52, upd_ne hq]
            · rw [Dn k z1 z2]
              exact (mA2 al1 al1A).1 k q hq, al1A⟩
        have p1 := rdP_M (T := T) (n := n) (z := plc K - 1) (i := 0) (s := gon (nxE T n p)) (f := fun _ => 0)
        have p2 := fun f => rdP_M (T := T) (n := n) (z := plc K - 2) (i := 1) (s := s1.2) (f := f)
        have p3 := fun f => rdP_M (T := T) (n := n) (z := plc K - 3) (i := 2) (s := s2.2) (f := f)
        by_cases y4 : K = 4
        · have pl : plc K = 4 := by rw [y4]; rfl
          have p4 := fun f => rdP_M (T := T) (n := n) (z := 0) (i := 3) (s := s3.2) (f := f)
          rw [pl] at p1 p2 p3 eC
          obtain ⟨v5, k5, c5, f5⟩ := m_count (E := E) (c := c + 1) (v := v4) (ai := ai4) (al := al1) h hT4 hn o3 c4 (lo := 0) (hi := 19) (by decide) (by decide)
          rw [show nI 0 = (0 : Int32) from rfl, show nI 19 = (19 : Int32) from rfl] at k5
          have o4 := ok_rdM (T := T) (lo := 0) (hi := 19) o3
          obtain ⟨s4, hs4⟩ : ∃ s4, rdM T n 0 19 s3.2 = s4 := ⟨_, rfl⟩
          rw [hs4] at k5 c5 o4
          have hT5 : iu ai4 53 (upd (ai4 53) cn (nI s4.1)) 28 = T := by rw [iu_ne (by decide)]; exact hT4
          obtain ⟨v6, k6, c6, d6, f6⟩ := l_me (E := E) (c := c + 2) (v := v5) (ai := iu ai4 53 (upd (ai4 53) cn (nI s4.1))) (al := al1) h hT5 hn o4 c5 (cn := cn) (by rw [f5 42 (by omega), g4]) (l1 := some (.int (nI K))) (l2 := some (.int (nI cn)))
          have q1 := p1
          have q2 := p2 (fnu (fun _ => 0) 0 s1.1)
          have q3 := p3 (fnu (fnu (fun _ => 0) 0 s1.1) 1 s2.1)
          have q4 := p4 (fnu (fnu (fnu (fun _ => 0) 0 s1.1) 1 s2.1) 2 s3.1)
          rw [hs2] at q2
          rw [hs3] at q3
          rw [hs4] at q4
          have r2 : (rdP T n 4 0 (gon (nxE T n p)) (fun _ => 0)).2 = s4.2 := q1.1.trans (q2.1.trans (q3.1.trans q4.1))
          refine ⟨v6, iu ai4 53 (upd (ai4 53) cn (nI s4.1)), al1, e247 (head _ ?_), by rw [eC, r2]; exact c6, by rw [eC, r2]; exact d6, fun k z1 z2 => by rw [f6 k z1 z2, f5 k z1, f4 k z1, f3 k z1, f2 k z1, f1 k z1], ⟨fun k q hq => ?_, al1A⟩, fun hf => ?_, fun hB => by rw [iu_ne (by decide), D51]; exact bB_upd hB (by rw [← hs2]; exact rdM_19)⟩
          · simp (disch := first | assumption | omega | decide | (simp only [List.length_cons, List.length_nil, Nat.reduceAdd, Nat.reduceLT]; done) | fail) only [r247_76, r247_77, r247_79, r247_82, r247_83, r247_85, r247_88, r247_89, r247_93, r247_96, r247_97, r247_100, r247_101, r247_102, r247_103, r247_108, r247_109, r247_110, r247_113, r247_114, r247_118, r247_119, r247_120, r247_121, r247_127, r247_130, r247_131, r247_134, r247_135, r247_136, r247_137, r247_142, r247_143, r247_144, r247_145, r247_146, r247_152, r247_155, r247_156, r247_159, r247_160, r247_161, r247_162, r247_167, r247_168, r247_169, r247_170, r247_173, r247_174, r247_177, r247_178, r247_179, r247_180, r247_185, mh_o h, gm_50, gm_51, gm_52, gm_53, pI, hm_50 h, sm_50 h, hm_51 h, sm_51 h, hm_52 h, sm_52 h, hm_53 h, sm_53 h, e2, e3, e4, y6, y7, y0, q247_105 k2 h.ci, q247_124 m_isIn, q247_139 k3 h.ci, q247_149 m_isIn, q247_164 k4 h.ci, q247_182 k5 h.ci, isk h8, n1, eq_true y4, b2i_eq0, WPo_some, List.getElem?_cons_succ, List.getElem?_cons_zero, kil_n, kil_i, kil_a, kil_u, kil_l, Option.toList_some, Option.toList_none, List.cons_append, List.nil_append, List.set_cons_succ, List.set_cons_zero, addm1, Nat.reduceAdd, List.length_cons, List.length_nil, Nat.reduceLT, nI_clamp, nI_toInt, nI_leL, nI_Lle, nI_ltL, nI_Llt, nI_eqL, nI_Leq, nI_leE, nI_ltE, nI_eqE, nI_eqM, nI_add, nI_addL, nI_Ladd, nI_mulL, nI_Lmul, pk_mul, pk_sub, nI_subL, nI_Lsub, i2l_nI, Int.toNat_natCast, Nat.not_lt_zero, Nat.zero_le, ifT, ifF, not_true_eq_false, not_false_eq_true, if_true, if_false, or_self, and_self, true_and, and_true, or_true, true_or, false_or, or_false, false_and, and_false]
            exact k6
          · by_cases z1 : k = 53
            · subst z1
              have hq' : q ≠ cn := by rcases hq with hq | hq; exact absurd (by omega) hq; exact hq
              rw [iu_at, upd_ne hq', Dn 53 (by decide) (by decide), Cn 53 (by decide) (by decide) (by decide)]
            · rw [iu_ne z1]
              exact mA4.1 k q hq
          · rw [eC] at hf ⊢
            rw [r2] at hf
            have z4 := tkC_0 hf
            have ef : (rdP T n 4 0 (gon (nxE T n p)) (fun _ => 0)).1 = fnu (fnu (fnu (fnu (fun _ => 0) 0 s1.1) 1 s2.1) 2 s3.1) 3 s4.1 := by
              have a1 := q1.2 (by rw [show 4 - 1 + 1 = 4 from rfl, r2]; exact z4)
              have a2 := q2.2 (by rw [q2.1]; exact (congrArg (fun s : aPs => s.2.1) (q3.1.trans q4.1)).trans z4)
              have a3 := q3.2 (by rw [q3.1]; exact (congrArg (fun s : aPs => s.2.1) q4.1).trans z4)
              have a4 := q4.2 (by rw [q4.1]; exact z4)
              exact a1.trans (a2.trans (a3.trans a4))
            refine ⟨?_, ?_, fun z => ?_, fun z => ?_, fun z => ?_, fun z => ?_, fun z => absurd z y, fun z => absurd z y0⟩
            · rw [iu_ne (by decide), Dn 49 (by decide) (by decide), C49, upd_at]
            · rw [iu_ne (by decide), Dn 54 (by decide) (by decide), C54, upd_at]; rfl
            · dsimp only; rw [iu_ne (by decide), Dn 50 (by decide) (by decide), C50, upd_at, ef]; rfl
            · dsimp only; rw [iu_ne (by decide), D51, upd_at, ef]; rfl
            · dsimp only; rw [iu_ne (by decide), D52, upd_at, ef]; rfl
            · dsimp only; rw [iu_at, upd_at, ef]; rfl
        · have pl : plc K = 3 := by
            rcases (show K = 1 ∨ K = 2 ∨ K = 3 by omega) with z | z | z <;> rw [z] <;> rfl
          rw [pl] at p1 p2 p3 eC
          obtain ⟨v6, k6, c6, d6, f6⟩ := l_me (E := E) (c := c + 2) (v := v4) (ai := ai4) (al := al1) h hT4 hn o3 c4 (cn := cn) g4 (l1 := some (.int (nI K))) (l2 := some (.int (nI cn)))
          have q1 := p1
          have q2 := p2 (fnu (fun _ => 0) 0 s1.1)
          have q3 := p3 (fnu (fnu (fun _ => 0) 0 s1.1) 1 s2.1)
          rw [hs2] at q2
          rw [hs3] at q3
          have r2 : (rdP T n 3 0 (gon (nxE T n p)) (fun _ => 0)).2 = s3.2 := q1.1.trans (q2.1.trans q3.1)
          refine ⟨v6, ai4, al1, e247 (head _ ?_), by rw [eC, r2]; exact c6, by rw [eC, r2]; exact d6, fun k z1 z2 => by rw [f6 k z1 z2, f4 k z1, f3 k z1, f2 k z1, f1 k z1], mA4, fun hf => ?_, fun hB => by rw [D51]; exact bB_upd hB (by rw [← hs2]; exact rdM_19)⟩
          · simp (disch := first | assumption | omega | decide | (simp only [List.length_cons, List.length_nil, Nat.reduceAdd, Nat.reduceLT]; done) | fail) only [r247_76, r247_77, r247_79, r247_82, r247_83, r247_85, r247_88, r247_89, r247_93, r247_96, r247_97, r247_100, r247_101, r247_102, r247_103, r247_108, r247_109, r247_110, r247_113, r247_114, r247_118, r247_119, r247_120, r247_121, r247_127, r247_130, r247_131, r247_134, r247_135, r247_136, r247_137, r247_142, r247_143, r247_144, r247_145, r247_146, r247_152, r247_155, r247_156, r247_159, r247_160, r247_161, r247_162, r247_167, r247_168, r247_169, r247_170, r247_173, mh_o h, gm_50, gm_51, gm_52, pI, hm_50 h, sm_50 h, hm_51 h, sm_51 h, hm_52 h, sm_52 h, e2, e3, e4, y6, y7, y0, q247_105 k2 h.ci, q247_124 m_isIn, q247_139 k3 h.ci, q247_149 m_isIn, q247_164 k4 h.ci, isk h8, n1, y4, b2i_eq0, WPo_some, List.getElem?_cons_succ, List.getElem?_cons_zero, kil_n, kil_i, kil_a, kil_u, kil_l, Option.toList_some, Option.toList_none, List.cons_append, List.nil_append, List.set_cons_succ, List.set_cons_zero, addm1, Nat.reduceAdd, List.length_cons, List.length_nil, Nat.reduceLT, nI_clamp, nI_toInt, nI_leL, nI_Lle, nI_ltL, nI_Llt, nI_eqL, nI_Leq, nI_leE, nI_ltE, nI_eqE, nI_eqM, nI_add, nI_addL, nI_Ladd, nI_mulL, nI_Lmul, pk_mul, pk_sub, nI_subL, nI_Lsub, i2l_nI, Int.toNat_natCast, Nat.not_lt_zero, Nat.zero_le, ifT, ifF, not_true_eq_false, not_false_eq_true, if_true, if_false, or_self, and_self, true_and, and_true, or_true, true_or, false_or, or_false, false_and, and_false]
            exact k6
          · rw [eC] at hf ⊢
            rw [r2] at hf
            have z4 := tkC_0 hf
            have ef : (rdP T n 3 0 (gon (nxE T n p)) (fun _ => 0)).1 = fnu (fnu (fnu (fun _ => 0) 0 s1.1) 1 s2.1) 2 s3.1 := by
              have a1 := q1.2 (by rw [show 3 - 1 + 1 = 3 from rfl, r2]; exact z4)
              have a2 := q2.2 (by rw [q2.1]; exact (congrArg (fun s : aPs => s.2.1) q3.1).trans z4)
              have a3 := q3.2 (by rw [q3.1]; exact z4)
              exact a1.trans (a2.trans a3)
            refine ⟨?_, ?_, fun z => ?_, fun z => ?_, fun z => ?_, fun z => ?_, fun z => absurd z y, fun z => absurd z y0⟩
            · rw [Dn 49 (by decide) (by decide), C49, upd_at]
            · rw [Dn 54 (by decide) (by decide), C54, upd_at]; rfl
            · dsimp only; rw [Dn 50 (by decide) (by decide), C50, upd_at, ef]; rfl
            · dsimp only; rw [D51, upd_at, ef]; rfl
            · dsimp only; rw [D52, upd_at, ef]; rfl
            · exact absurd (show 3 < plc K from z) (by omega)
end MRD

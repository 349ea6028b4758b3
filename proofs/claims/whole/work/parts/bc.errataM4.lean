/-! Errata of the model: one value corrected -/
theorem l2i_rg {a : Int64} (h : 0 ≤ a.toInt ∧ a.toInt ≤ 99999999) : (a.toInt32).toInt = a.toInt := by
  rw [Int64.toInt_toInt32, Int.bmod_eq_of_le (by omega) (by omega)]
/-- the model's table and variants are laid in -/
noncomputable def mrL (n : Nat) (V : Nat → Nat) (ai : Nat → Nat → Int32) (al : Nat → Nat → Int64) : Prop := (∀ i, i < n → al 70 i = iL (V i) ∧ V i ≤ 99999999) ∧ ∀ i, i < n → ∃ cc, ai 73 i = nI cc ∧ cc ≤ 79 ∧ srS (fun q => (al 72 (80 * i + q)).toInt) cc (opN (V i))
noncomputable def frE (ai ai' : Nat → Nat → Int32) (al al' : Nat → Nat → Int64) : Prop := (∀ k, k ≠ 75 → k ≠ 76 → ai' k = ai k) ∧ ∀ k, k ≠ 70 → k ≠ 71 → al' k = al k
theorem vup_self {D : Nat → Int64} {k : Nat} : vp_updL D k (D k) = D := by
  funext j
  by_cases z : j = k
  · rw [z, vup_at]
  · rw [vup_ne z]
theorem vup_vup {D : Nat → Int64} {k : Nat} {x y : Int64} : vp_updL (vp_updL D k x) k y = vp_updL D k y := by
  funext j
  by_cases z : j = k
  · rw [z, vup_at, vup_at]
  · rw [vup_ne z, vup_ne z, vup_ne z]
section MCR
variable {E : aEnv} {c m : Nat} {ah : aHp} {ma : Nat → Nat} {v : Nat → Value} {ai : Nat → Nat → Int32} {al : Nat → Nat → Int64} {n k b : Nat} {V : Nat → Nat}
theorem lu_cm {a : Nat → Nat → Int64} {k j : Nat} {x y : Nat → Int64} (h : ¬ j = k) : lu (lu a k x) j y = lu (lu a j y) k x := by
  funext q
  unfold lu
  by_cases z : q = j
  · subst z; simp [h]
  · simp [z]
theorem st_rg {i : Nat} {x : Int} (hV : ∀ q, q < n → V q ≤ 99999999) (hx : 0 ≤ x ∧ x ≤ 99999999) : ∀ q, q < n → 0 ≤ stV (vI V) i x q ∧ stV (vI V) i x q ≤ 99999999 := fun q hq => by
  unfold stV
  split
  · exact hx
  · have := hV q hq
    show 0 ≤ (V q : Int) ∧ (V q : Int) ≤ 99999999
    omega
theorem df_rg (h1 : 1 ≤ k) (h4 : k ≤ 4) {W : Nat → Int} (hW : ∀ q, q < n → 0 ≤ W q ∧ W q ≤ 99999999) : ∀ t, t + k < n → (df k W t).natAbs ≤ 1600000000 := fun t ht => df_bd h1 h4 (fun i hi => hW (t + i) (by omega))
theorem m_corr1 (h : MO E ah m ma) (h1 : 1 ≤ k) (h4 : k ≤ 4) (hn : n ≤ 20) (hkn : k < n) (hb : b ≤ 1000) (hL : mrL n V ai al) {i : Nat} (hi : i < n) : ∃ r ai' al', EV E (c + 2) 269 [.ref m, .int (nI n), .int (nI k), .int (nI b), .int (nI i), .int (nI i)] (mh E ah m ma v ai al) (some (.int r)) (mh E ah m ma v ai' al') ∧ frE ai ai' al al' ∧ ((r = 1 ∧ ∃ x : Int32, ai' 75 0 = nI i ∧ ai' 76 0 = x ∧ opN (V i) x.toInt ∧ smo n k b (stV (vI V) i x.toInt) ∧ ∀ x', opN (V i) x' → smo n k b (stV (vI V) i x') → x.toInt ≤ x') ∨ (r = 0 ∧ ai' = ai ∧ al' 70 = al 70 ∧ ∀ x, opN (V i) x → ¬ smo n k b (stV (vI V) i x))) := by
  have hV : ∀ q, q < n → V q ≤ 99999999 := fun q hq => (hL.1 q hq).2
  have hT : ∀ q, q < n → al 70 q = iL (vI V q) := fun q hq => (hL.1 q hq).1
  obtain ⟨cc, c1, c2, c3⟩ := hL.2 i hi
  have b80 : (80 : Int32) * nI i = nI (80 * i) := by rw [show (80 : Int32) = nI 80 from rfl, pk_mul]
  obtain ⟨r0, L0, k0, hr0⟩ := m_isElsewhere (E := E) (c := c) (v := v) (ai := ai) (al := al) h h1 hn hkn hb hT (df_rg h1 h4 (fun q hq => by have := hV q hq; show 0 ≤ (V q : Int) ∧ (V q : Int) ≤ 99999999; omega)) (i := i) (j := i) (by omega) (by omega)
  have eR : Rgh n k b (df k (vI V)) (some i) (some i) ↔ Rgh n k b (df k (vI V)) (some i) none := by
    constructor
    · rintro ⟨t, t1, t2, -, t4⟩
      exact ⟨t, t1, t2, trivial, t4⟩
    · rintro ⟨t, t1, t2, -, t4⟩
      exact ⟨t, t1, t2, t2, t4⟩
  rcases hr0 with ⟨e0, R⟩ | ⟨e0, R⟩
  · subst e0
    have loop : ∀ z x u L l11, x + z = cc → (∀ q, q < x → ¬ smo n k b (stV (vI V) i (al 72 (80 * i + q)).toInt)) → ∃ r ai' al', WP E (c + 2) 269 37 [some (.ref m), some (.int (nI n)), some (.int (nI k)), some (.int (nI b)), some (.int (nI i)), some (.int (nI i)), some (.long (al 70 i)), none, some (.long (al 70 i)), none, some (.int (nI x)), l11] [] (mh E ah m ma v ai (lu (lu al 70 (vp_updL (al 70) i u)) 71 L)) (fun r1 y => r1 = some (.int r) ∧ y = mh E ah m ma v ai' al') ∧ frE ai ai' al al' ∧ ((r = 1 ∧ ∃ x : Int32, ai' 75 0 = nI i ∧ ai' 76 0 = x ∧ opN (V i) x.toInt ∧ smo n k b (stV (vI V) i x.toInt) ∧ ∀ x', opN (V i) x' → smo n k b (stV (vI V) i x') → x.toInt ≤ x') ∨ (r = 0 ∧ ai' = ai ∧ al' 70 = al 70 ∧ ∀ x, opN (V i) x → ¬ smo n k b (stV (vI V) i x))) := by
      intro z
      induction z with
      | zero =>
        intro x u L l11 hz hq
        refine ⟨0, ai, lu (lu al 70 (al 70)) 71 L, ?_, ⟨fun _ _ _ => rfl, fun q q1 q2 => by rw [lu_ne q2, lu_ne q1]⟩, Or.inr ⟨rfl, rfl, by rw [lu_ne (by decide), lu_at], fun X hX hs => ?_⟩⟩
        · have vs : vp_updL (vp_updL (al 70) i u) i (al 70 i) = al 70 := by rw [vup_vup, vup_self]
          have lc : lu (lu (lu al 70 (vp_updL (al 70) i u)) 71 L) 70 (al 70) = lu (lu al 70 (al 70)) 71 L := by rw [lu_cm (by decide), lu_lu]
          rw [show x = cc by omega, r269_37]
          simp (disch := first | assumption | omega | decide | (simp only [List.length_cons, List.length_nil, Nat.reduceAdd, Nat.reduceLT]; done) | fail) only [r269_39, r269_40, r269_43, r269_45, r269_46, r269_219, r269_220, r269_223, r269_225, r269_227, r269_228, r269_229 (x := 0) (Or.inl rfl), r269_229 (x := 1) (Or.inr rfl), r269_229 (b2i_or _), mh_o h, gm_73, gm_70, gI, pL, hm_73 h, hm_70 h, sm_70 h, lu_ne, lu_at, c1, vs, lc, WPo_some, List.getElem?_cons_succ, List.getElem?_cons_zero, kil_n, kil_i, kil_a, kil_u, kil_l, Option.toList_some, Option.toList_none, List.cons_append, List.nil_append, List.set_cons_succ, List.set_cons_zero, addm1, Nat.reduceAdd, List.length_cons, List.length_nil, Nat.reduceLT, nI_clamp, nI_toInt, nI_leL, nI_Lle, nI_ltL, nI_Llt, nI_eqL, nI_Leq, nI_leE, nI_ltE, nI_eqE, nI_eqM, nI_add, nI_addL, nI_Ladd, nI_mulL, nI_Lmul, pk_mul, pk_sub, nI_subL, nI_Lsub, i2l_nI, Int.toNat_natCast, Nat.not_lt_zero, Nat.zero_le, ifT, ifF, not_true_eq_false, not_false_eq_true, if_true, if_false, or_self, and_self, true_and, and_true, or_true, true_or, false_or, or_false, false_and, and_false]
        · obtain ⟨q, q1, q2⟩ := (c3.2 X).mp hX
          have q2 : (al 72 (80 * i + q)).toInt = X := q2
          rw [← q2] at hs
          exact hq q (by omega) hs
      | succ z ih =>
        intro x u L l11 hz hq
        have mem : opN (V i) (al 72 (80 * i + x)).toInt := (c3.2 _).mpr ⟨x, by omega, rfl⟩
        have rg := op_rg (hV i hi) mem
        have vv : vp_updL (vp_updL (al 70) i u) i (al 72 (80 * i + x)) = vp_updL (al 70) i (al 72 (80 * i + x)) := vup_vup
        have lc : ∀ f, lu (lu (lu al 70 (vp_updL (al 70) i u)) 71 L) 70 f = lu (lu al 70 f) 71 L := fun f => by rw [lu_cm (by decide), lu_lu]
        obtain ⟨r, L', ks, hs⟩ := m_isSmooth (E := E) (c := c) (v := v) (ai := ai) (al := lu (lu al 70 (vp_updL (al 70) i (al 72 (80 * i + x)))) 71 L) (W := stV (vI V) i (al 72 (80 * i + x)).toInt) h h1 hn hkn hb (fun q hq => by
          rw [lu_ne (by decide), lu_at]
          unfold stV
          by_cases e : q = i
          · rw [if_pos e, e, vup_at]; exact iL_of _
          · rw [if_neg e, vup_ne e]; exact hT q hq) (df_rg h1 h4 (st_rg hV rg))
        rw [lu_lu] at ks
        have g72 : lu (lu al 70 (vp_updL (al 70) i u)) 71 L 72 = al 72 := by rw [lu_ne (by decide), lu_ne (by decide)]
        rcases hs with ⟨e1, hsm⟩ | ⟨e1, hsm⟩
        · subst e1
          refine ⟨1, iu (iu ai 75 (upd (upd (ai 75) 0 (nI i)) 1 (nI i))) 76 (upd (upd (ai 76) 0 (al 72 (80 * i + x)).toInt32) 1 (al 72 (80 * i + x)).toInt32), lu (lu al 70 (vp_updL (al 70) i (al 72 (80 * i + x)))) 71 L', ?_, ⟨fun q q1 q2 => by rw [iu_ne q2, iu_ne q1], fun q q1 q2 => by rw [lu_ne q2, lu_ne q1]⟩, Or.inl ⟨rfl, (al 72 (80 * i + x)).toInt32, ?_, ?_, ?_, ?_, ?_⟩⟩
          · have lc2 : iu (iu (iu (iu ai 75 (upd (ai 75) 0 (nI i))) 76 (upd (ai 76) 0 (al 72 (80 * i + x)).toInt32)) 75 (upd (upd (ai 75) 0 (nI i)) 1 (nI i))) 76 (upd (upd (ai 76) 0 (al 72 (80 * i + x)).toInt32) 1 (al 72 (80 * i + x)).toInt32) = iu (iu ai 75 (upd (upd (ai 75) 0 (nI i)) 1 (nI i))) 76 (upd (upd (ai 76) 0 (al 72 (80 * i + x)).toInt32) 1 (al 72 (80 * i + x)).toInt32) := by
              funext q
              unfold iu
              by_cases w : q = 76
              · simp [w]
              · by_cases w2 : q = 75
                · simp [w2]
                · simp [w, w2]
            rw [r269_37]
            simp (disch := first | assumption | omega | decide | (simp only [List.length_cons, List.length_nil, Nat.reduceAdd, Nat.reduceLT]; done) | fail) only [r269_39, r269_40, r269_43, r269_45, r269_46, r269_49, r269_50, r269_53, r269_55, r269_56, r269_59, r269_61, r269_63, r269_64, r269_66, r269_67, r269_68, r269_69, r269_70, r269_72, r269_74, r269_76, r269_78, r269_81, r269_82, r269_85, r269_86, r269_89, r269_91, r269_92, r269_95, r269_97, r269_99, r269_102, r269_103, r269_106, r269_108, r269_109, r269_112, r269_114, r269_116, r269_117, r269_119, r269_120, r269_121, r269_122, r269_123, r269_124, r269_125, r269_129, r269_132, r269_135, r269_136, r269_139, r269_140, r269_142, r269_143, r269_144, r269_147, r269_148, r269_149, r269_152, r269_154, r269_155, r269_156, r269_157, r269_158, r269_161, r269_162, r269_164, r269_165, r269_166, r269_169, r269_170, r269_171, r269_174, r269_176, r269_177, r269_178, r269_179, r269_180 (x := 0) (Or.inl rfl), r269_180 (x := 1) (Or.inr rfl), r269_180 (b2i_or _), mh_o h, gm_73, gm_70, gm_72, gm_75, gm_76, gI, pI, gL, pL, hm_73 h, hm_70 h, hm_72 h, hm_75 h, hm_76 h, sm_70 h, sm_75 h, sm_76 h, lu_ne, lu_at, iu_ne, iu_at, c1, b80, vv, lc, vup_at, q269_126 ks h.ci, lc2, WPo_some, List.getElem?_cons_succ, List.getElem?_cons_zero, kil_n, kil_i, kil_a, kil_u, kil_l, Option.toList_some, Option.toList_none, List.cons_append, List.nil_append, List.set_cons_succ, List.set_cons_zero, addm1, Nat.reduceAdd, List.length_cons, List.length_nil, Nat.reduceLT, nI_clamp, nI_toInt, nI_leL, nI_Lle, nI_ltL, nI_Llt, nI_eqL, nI_Leq, nI_leE, nI_ltE, nI_eqE, nI_eqM, nI_add, nI_addL, nI_Ladd, nI_mulL, nI_Lmul, pk_mul, pk_sub, nI_subL, nI_Lsub, i2l_nI, Int.toNat_natCast, Nat.not_lt_zero, Nat.zero_le, ifT, ifF, not_true_eq_false, not_false_eq_true, if_true, if_false, or_self, and_self, true_and, and_true, or_true, true_or, false_or, or_false, false_and, and_false, show ¬ (1 : Int32) = 0 by decide]
            exact congrArg (fun q => mh E ah m ma v q (lu (lu al 70 (vp_updL (al 70) i (al 72 (80 * i + x)))) 71 L')) lc2
          · rw [iu_ne (by decide), iu_at, upd_ne (by decide), upd_at]
          · rw [iu_at, upd_ne (by decide), upd_at]
          · rw [l2i_rg rg]; exact mem
          · rw [l2i_rg rg]; exact hsm
          · intro X hX hsX
            rw [l2i_rg rg]
            obtain ⟨q, q1, q2⟩ := (c3.2 X).mp hX
            have q2 : (al 72 (80 * i + q)).toInt = X := q2
            by_cases w : q < x
            · rw [← q2] at hsX
              exact absurd hsX (hq q w)
            · rw [← q2]
              by_cases e : q = x
              · rw [e]; exact Int.le_refl _
              · exact c3.1 x q (by omega) q1
        · subst e1
          obtain ⟨r, ai', al', w, hw⟩ := ih (x + 1) (al 72 (80 * i + x)) L' (some (.int (nI 1))) (by omega) (fun q q1 => by
            by_cases e : q = x
            · rw [e]; exact hsm
            · exact hq q (by omega))
          refine ⟨r, ai', al', ?_, hw⟩
          have lc3 : lu (lu (lu al 70 (vp_updL (al 70) i (al 72 (80 * i + x)))) 71 L') 70 (vp_updL (al 70) i (al 72 (80 * i + x))) = lu (lu al 70 (vp_updL (al 70) i (al 72 (80 * i + x)))) 71 L' := by rw [lu_cm (by decide), lu_lu]
          have vv2 : vp_updL (vp_updL (al 70) i (al 72 (80 * i + x))) i (al 72 (80 * i + x)) = vp_updL (al 70) i (al 72 (80 * i + x)) := vup_vup
          rw [r269_37]
          simp (disch := first | assumption | omega | decide | (simp only [List.length_cons, List.length_nil, Nat.reduceAdd, Nat.reduceLT]; done) | fail) only [r269_39, r269_40, r269_43, r269_45, r269_46, r269_49, r269_50, r269_53, r269_55, r269_56, r269_59, r269_61, r269_63, r269_64, r269_66, r269_67, r269_68, r269_69, r269_70, r269_72, r269_74, r269_76, r269_78, r269_81, r269_82, r269_85, r269_86, r269_89, r269_91, r269_92, r269_95, r269_97, r269_99, r269_102, r269_103, r269_106, r269_108, r269_109, r269_112, r269_114, r269_116, r269_117, r269_119, r269_120, r269_121, r269_122, r269_123, r269_124, r269_125, r269_129, r269_132, r269_181, r269_184, r269_187, r269_188, r269_191, r269_193, r269_195, r269_197, r269_200, r269_201, r269_204, r269_206, r269_207, r269_210, r269_212, r269_213, r269_216, mh_o h, gm_73, gm_70, gm_72, gI, gL, pL, hm_73 h, hm_70 h, hm_72 h, sm_70 h, lu_ne, lu_at, c1, b80, vv, vv2, lc, lc3, vup_at, q269_126 ks h.ci, WPo_some, List.getElem?_cons_succ, List.getElem?_cons_zero, kil_n, kil_i, kil_a, kil_u, kil_l, Option.toList_some, Option.toList_none, List.cons_append, List.nil_append, List.set_cons_succ, List.set_cons_zero, addm1, Nat.reduceAdd, List.length_cons, List.length_nil, Nat.reduceLT, nI_clamp, nI_toInt, nI_leL, nI_Lle, nI_ltL, nI_Llt, nI_eqL, nI_Leq, nI_leE, nI_ltE, nI_eqE, nI_eqM, nI_add, nI_addL, nI_Ladd, nI_mulL, nI_Lmul, pk_mul, pk_sub, nI_subL, nI_Lsub, i2l_nI, Int.toNat_natCast, Nat.not_lt_zero, Nat.zero_le, ifT, ifF, not_true_eq_false, not_false_eq_true, if_true, if_false, or_self, and_self, true_and, and_true, or_true, true_or, false_or, or_false, false_and, and_false]
          exact w
    obtain ⟨r, ai', al', w, hw⟩ := loop cc 0 (al 70 i) L0 none (by omega) (fun q hq => absurd hq (by omega))
    refine ⟨r, ai', al', e269 ?_, hw⟩
    rw [vup_self, lu_self] at w
    simp (disch := first | assumption | omega | decide | (simp only [List.length_cons, List.length_nil, Nat.reduceAdd, Nat.reduceLT]; done) | fail) only [r269_0, r269_1, r269_2, r269_3, r269_4, r269_6, r269_11, r269_14, r269_15 (x := 0) (Or.inl rfl), r269_15 (x := 1) (Or.inr rfl), r269_15 (b2i_or _), r269_16, r269_17, r269_20, r269_22, r269_23, r269_25, r269_26, r269_29, r269_31, r269_32, r269_34, r269_35, mh_o h, gm_70, gL, hm_70 h, lu_ne, q269_8 k0 h.ci, WPo_some, List.getElem?_cons_succ, List.getElem?_cons_zero, kil_n, kil_i, kil_a, kil_u, kil_l, Option.toList_some, Option.toList_none, List.cons_append, List.nil_append, List.set_cons_succ, List.set_cons_zero, addm1, Nat.reduceAdd, List.length_cons, List.length_nil, Nat.reduceLT, nI_clamp, nI_toInt, nI_leL, nI_Lle, nI_ltL, nI_Llt, nI_eqL, nI_Leq, nI_leE, nI_ltE, nI_eqE, nI_eqM, nI_add, nI_addL, nI_Ladd, nI_mulL, nI_Lmul, pk_mul, pk_sub, nI_subL, nI_Lsub, i2l_nI, Int.toNat_natCast, Nat.not_lt_zero, Nat.zero_le, ifT, ifF, not_true_eq_false, not_false_eq_true, if_true, if_false, or_self, and_self, true_and, and_true, or_true, true_or, false_or, or_false, false_and, and_false, show ¬ (1 : Int32) = 0 by decide]
    exact w
  · subst e0
    refine ⟨0, ai, lu al 71 L0, e269 ?_, ⟨fun _ _ _ => rfl, fun q q1 q2 => lu_ne q2⟩, Or.inr ⟨rfl, rfl, lu_ne (by decide), fun x hx hs => ((sm1 h1 h4).mp hs).1 (eR.mp R)⟩⟩
    simp (disch := first | assumption | omega | decide | (simp only [List.length_cons, List.length_nil, Nat.reduceAdd, Nat.reduceLT]; done) | fail) only [r269_0, r269_1, r269_2, r269_3, r269_4, r269_6, r269_11, r269_14, r269_15 (x := 0) (Or.inl rfl), r269_15 (x := 1) (Or.inr rfl), r269_15 (b2i_or _), q269_8 k0 h.ci, WPo_some, List.getElem?_cons_succ, List.getElem?_cons_zero, kil_n, kil_i, kil_a, kil_u, kil_l, Option.toList_some, Option.toList_none, List.cons_append, List.nil_append, List.set_cons_succ, List.set_cons_zero, addm1, Nat.reduceAdd, List.length_cons, List.length_nil, Nat.reduceLT, not_true_eq_false, not_false_eq_true, if_true, if_false, or_self, and_self, true_and, and_true, or_true, true_or, false_or, or_false, false_and, and_false]
end MCR

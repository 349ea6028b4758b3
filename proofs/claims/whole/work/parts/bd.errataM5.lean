/-! Errata of the model: two values corrected -/
section MCP
variable {E : aEnv} {c m : Nat} {ah : aHp} {ma : Nat → Nat} {v : Nat → Value} {ai : Nat → Nat → Int32} {al : Nat → Nat → Int64} {n k b : Nat} {V : Nat → Nat}
theorem vup_cm {D : Nat → Int64} {i j : Nat} {x y : Int64} (h : ¬ i = j) : vp_updL (vp_updL D i x) j y = vp_updL (vp_updL D j y) i x := by
  funext q
  by_cases z : q = j
  · rw [z, vup_at, vup_ne (fun w => h w.symm), vup_at]
  · rw [vup_ne z]
    by_cases w : q = i
    · rw [w, vup_at, vup_at]
    · rw [vup_ne w, vup_ne w, vup_ne z]
/-- what correcting a pair gives -/
noncomputable def c2R (n k b : Nat) (V : Nat → Nat) (i j : Nat) (ai : Nat → Nat → Int32) (al : Nat → Nat → Int64) (r : Int32) (ai' : Nat → Nat → Int32) (al' : Nat → Nat → Int64) : Prop := (r = 1 ∧ ∃ x y : Int32, ai' 75 0 = nI i ∧ ai' 76 0 = x ∧ ai' 75 1 = nI j ∧ ai' 76 1 = y ∧ P2 n k b V i j x.toInt y.toInt ∧ ∀ x' y', P2 n k b V i j x' y' → x.toInt < x' ∨ (x.toInt = x' ∧ y.toInt ≤ y')) ∨ (r = 0 ∧ ai' = ai ∧ al' 70 = al 70 ∧ ∀ x y, ¬ P2 n k b V i j x y)
theorem m_corr2 (h : MO E ah m ma) (h1 : 1 ≤ k) (h4 : k ≤ 4) (hn : n ≤ 20) (hkn : k < n) (hb : b ≤ 1000) (hL : mrL n V ai al) {i j : Nat} (hij : i < j) (hj : j < n) : ∃ r ai' al', EV E (c + 2) 269 [.ref m, .int (nI n), .int (nI k), .int (nI b), .int (nI i), .int (nI j)] (mh E ah m ma v ai al) (some (.int r)) (mh E ah m ma v ai' al') ∧ frE ai ai' al al' ∧ c2R n k b V i j ai al r ai' al' := by
  have hi : i < n := by omega
  have nij : ¬ i = j := by omega
  have nji : ¬ j = i := by omega
  have hV : ∀ q, q < n → V q ≤ 99999999 := fun q hq => (hL.1 q hq).2
  have hT : ∀ q, q < n → al 70 q = iL (vI V q) := fun q hq => (hL.1 q hq).1
  obtain ⟨ci, i1, i2, i3⟩ := hL.2 i hi
  obtain ⟨cj, j1, j2, j3⟩ := hL.2 j hj
  have b80 : ∀ q, (80 : Int32) * nI q = nI (80 * q) := fun q => by rw [show (80 : Int32) = nI 80 from rfl, pk_mul]
  obtain ⟨r0, L0, k0, hr0⟩ := m_isElsewhere (E := E) (c := c) (v := v) (ai := ai) (al := al) h h1 hn hkn hb hT (df_rg h1 h4 (fun q hq => by have := hV q hq; show 0 ≤ (V q : Int) ∧ (V q : Int) ≤ 99999999; omega)) (i := i) (j := j) (by omega) (by omega)
  have neq : ¬ nI i = nI j := by rw [nI_eqE (by omega) (by omega)]; exact nij
  -- the table with two values changed
  let Tb : Int64 → Int64 → Nat → Int64 := fun a d => vp_updL (vp_updL (al 70) i a) j d
  have lc : ∀ f L g, lu (lu (lu al 70 f) 71 L) 70 g = lu (lu al 70 g) 71 L := fun f L g => by rw [lu_cm (by decide), lu_lu]
  have Tj : ∀ a d e, vp_updL (Tb a d) j e = Tb a e := fun a d e => vup_vup
  have Ti : ∀ a d e, vp_updL (Tb a d) i e = Tb e d := fun a d e => by
    show vp_updL (vp_updL (vp_updL (al 70) i a) j d) i e = vp_updL (vp_updL (al 70) i e) j d
    rw [vup_cm nji, vup_vup]
  have gi : ∀ a d, Tb a d i = a := fun a d => by show vp_updL (vp_updL (al 70) i a) j d i = a; rw [vup_ne nij, vup_at]
  have gj : ∀ a d, Tb a d j = d := fun a d => vup_at
  have T0 : Tb (al 70 i) (al 70 j) = al 70 := by
    show vp_updL (vp_updL (al 70) i (al 70 i)) j (al 70 j) = al 70
    rw [vup_self, vup_self]
  rcases hr0 with ⟨e0, R⟩ | ⟨e0, R⟩
  · subst e0
    have loop : ∀ z x u L l11, x + z = ci → (∀ q y, q < x → ¬ P2 n k b V i j (al 72 (80 * i + q)).toInt y) → ∃ r ai' al', WP E (c + 2) 269 37 [some (.ref m), some (.int (nI n)), some (.int (nI k)), some (.int (nI b)), some (.int (nI i)), some (.int (nI j)), some (.long (al 70 i)), none, some (.long (al 70 j)), none, some (.int (nI x)), l11] [] (mh E ah m ma v ai (lu (lu al 70 (Tb u (al 70 j))) 71 L)) (fun r1 y => r1 = some (.int r) ∧ y = mh E ah m ma v ai' al') ∧ frE ai ai' al al' ∧ c2R n k b V i j ai al r ai' al' := by
      intro z
      induction z with
      | zero =>
        intro x u L l11 hz hq
        refine ⟨0, ai, lu (lu al 70 (al 70)) 71 L, ?_, ⟨fun _ _ _ => rfl, fun q q1 q2 => by rw [lu_ne q2, lu_ne q1]⟩, Or.inr ⟨rfl, rfl, by rw [lu_ne (by decide), lu_at], fun X Y hP => ?_⟩⟩
        · have e1 := Ti u (al 70 j) (al 70 i)
          rw [T0] at e1
          rw [show x = ci by omega, r269_37]
          simp (disch := first | assumption | omega | decide | (simp only [List.length_cons, List.length_nil, Nat.reduceAdd, Nat.reduceLT]; done) | fail) only [r269_39, r269_40, r269_43, r269_45, r269_46, r269_219, r269_220, r269_223, r269_225, r269_227, r269_228, r269_229 (x := 0) (Or.inl rfl), r269_229 (x := 1) (Or.inr rfl), r269_229 (b2i_or _), mh_o h, gm_73, gm_70, gI, pL, hm_73 h, hm_70 h, sm_70 h, lu_ne, lu_at, i1, e1, lc, WPo_some, List.getElem?_cons_succ, List.getElem?_cons_zero, kil_n, kil_i, kil_a, kil_u, kil_l, Option.toList_some, Option.toList_none, List.cons_append, List.nil_append, List.set_cons_succ, List.set_cons_zero, addm1, Nat.reduceAdd, List.length_cons, List.length_nil, Nat.reduceLT, nI_clamp, nI_toInt, nI_leL, nI_Lle, nI_ltL, nI_Llt, nI_eqL, nI_Leq, nI_leE, nI_ltE, nI_eqE, nI_eqM, nI_add, nI_addL, nI_Ladd, nI_mulL, nI_Lmul, pk_mul, pk_sub, nI_subL, nI_Lsub, i2l_nI, Int.toNat_natCast, Nat.not_lt_zero, Nat.zero_le, ifT, ifF, not_true_eq_false, not_false_eq_true, if_true, if_false, or_self, and_self, true_and, and_true, or_true, true_or, false_or, or_false, false_and, and_false]
        · obtain ⟨q, q1, q2⟩ := (i3.2 X).mp hP.2.2.1
          have q2 : (al 72 (80 * i + q)).toInt = X := q2
          rw [← q2] at hP
          exact hq q Y (by omega) hP
      | succ z ih =>
        intro x u L l11 hz hq
        have mem : opN (V i) (al 72 (80 * i + x)).toInt := (i3.2 _).mpr ⟨x, by omega, rfl⟩
        have rg := op_rg (hV i hi) mem
        obtain ⟨xa, hxa⟩ : ∃ a, al 72 (80 * i + x) = a := ⟨_, rfl⟩
        rw [hxa] at mem rg
        have inner : ∀ zy y d L, y + zy = cj → (∀ q, q < y → ¬ P2 n k b V i j xa.toInt (al 72 (80 * j + q)).toInt) → ∃ r ai' al', WP E (c + 2) 269 72 [some (.ref m), some (.int (nI n)), some (.int (nI k)), some (.int (nI b)), some (.int (nI i)), some (.int (nI j)), some (.long (al 70 i)), none, some (.long (al 70 j)), none, some (.int (nI x)), some (.int (nI y))] [] (mh E ah m ma v ai (lu (lu al 70 (Tb xa d)) 71 L)) (fun r1 y => r1 = some (.int r) ∧ y = mh E ah m ma v ai' al') ∧ frE ai ai' al al' ∧ c2R n k b V i j ai al r ai' al' := by
          intro zy
          induction zy with
          | zero =>
            intro y d L hzy hqy
            obtain ⟨r, ai', al', w, hw⟩ := ih (x + 1) xa L (some (.int (nI y))) (by omega) (fun q Y q1 => by
              by_cases e : q = x
              · rw [e, hxa]
                intro hP
                obtain ⟨p, p1, p2⟩ := (j3.2 Y).mp hP.2.2.2.1
                have p2 : (al 72 (80 * j + p)).toInt = Y := p2
                rw [← p2] at hP
                exact hqy p (by omega) hP
              · exact hq q Y (by omega))
            refine ⟨r, ai', al', ?_, hw⟩
            rw [show y = cj by omega] at w ⊢
            rw [r269_72]
            simp (disch := first | assumption | omega | decide | (simp only [List.length_cons, List.length_nil, Nat.reduceAdd, Nat.reduceLT]; done) | fail) only [r269_74, r269_76, r269_78, r269_81, r269_82, r269_85, r269_86, r269_89, r269_91, r269_92, r269_187, r269_188, r269_191, r269_193, r269_195, r269_197, r269_200, r269_201, r269_204, r269_206, r269_207, r269_210, r269_212, r269_213, r269_216, mh_o h, gm_73, gm_70, gI, pL, hm_73 h, hm_70 h, sm_70 h, lu_ne, lu_at, j1, neq, Tj, lc, WPo_some, List.getElem?_cons_succ, List.getElem?_cons_zero, kil_n, kil_i, kil_a, kil_u, kil_l, Option.toList_some, Option.toList_none, List.cons_append, List.nil_append, List.set_cons_succ, List.set_cons_zero, addm1, Nat.reduceAdd, List.length_cons, List.length_nil, Nat.reduceLT, nI_clamp, nI_toInt, nI_leL, nI_Lle, nI_ltL, nI_Llt, nI_eqL, nI_Leq, nI_leE, nI_ltE, nI_eqE, nI_eqM, nI_add, nI_addL, nI_Ladd, nI_mulL, nI_Lmul, pk_mul, pk_sub, nI_subL, nI_Lsub, i2l_nI, Int.toNat_natCast, Nat.not_lt_zero, Nat.zero_le, ifT, ifF, not_true_eq_false, not_false_eq_true, if_true, if_false, or_self, and_self, true_and, and_true, or_true, true_or, false_or, or_false, false_and, and_false]
            exact w
          | succ zy ihy =>
            intro y d L hzy hqy
            have memj : opN (V j) (al 72 (80 * j + y)).toInt := (j3.2 _).mpr ⟨y, by omega, rfl⟩
            have rgj := op_rg (hV j hj) memj
            obtain ⟨ya, hya⟩ : ∃ a, al 72 (80 * j + y) = a := ⟨_, rfl⟩
            rw [hya] at memj rgj
            obtain ⟨r, L', ks, hs⟩ := m_isSmooth (E := E) (c := c) (v := v) (ai := ai) (al := lu (lu al 70 (Tb xa ya)) 71 L) (W := stV (stV (vI V) i xa.toInt) j ya.toInt) h h1 hn hkn hb (fun q hq => by
              rw [lu_ne (by decide), lu_at]
              show vp_updL (vp_updL (al 70) i xa) j ya q = _
              unfold stV
              by_cases e : q = j
              · rw [if_pos e, e, vup_at]; exact iL_of _
              · rw [if_neg e, vup_ne e]
                by_cases e2 : q = i
                · rw [if_pos e2, e2, vup_at]; exact iL_of _
                · rw [if_neg e2, vup_ne e2]; exact hT q hq) (df_rg h1 h4 (fun q hq => by
                  show 0 ≤ (if q = j then ya.toInt else stV (vI V) i xa.toInt q) ∧ (if q = j then ya.toInt else stV (vI V) i xa.toInt q) ≤ 99999999
                  split
                  · exact rgj
                  · exact st_rg hV rg q hq))
            rw [lu_lu] at ks
            rcases hs with ⟨e1, hsm⟩ | ⟨e1, hsm⟩
            · subst e1
              refine ⟨1, iu (iu ai 75 (upd (upd (ai 75) 0 (nI i)) 1 (nI j))) 76 (upd (upd (ai 76) 0 xa.toInt32) 1 ya.toInt32), lu (lu al 70 (Tb xa ya)) 71 L', ?_, ⟨fun q q1 q2 => by rw [iu_ne q2, iu_ne q1], fun q q1 q2 => by rw [lu_ne q2, lu_ne q1]⟩, Or.inl ⟨rfl, xa.toInt32, ya.toInt32, ?_, ?_, ?_, ?_, ?_, ?_⟩⟩
              · have lc2 : iu (iu (iu (iu ai 75 (upd (ai 75) 0 (nI i))) 76 (upd (ai 76) 0 xa.toInt32)) 75 (upd (upd (ai 75) 0 (nI i)) 1 (nI j))) 76 (upd (upd (ai 76) 0 xa.toInt32) 1 ya.toInt32) = iu (iu ai 75 (upd (upd (ai 75) 0 (nI i)) 1 (nI j))) 76 (upd (upd (ai 76) 0 xa.toInt32) 1 ya.toInt32) := by
                  funext q
                  unfold iu
                  by_cases w : q = 76
                  · simp [w]
                  · by_cases w2 : q = 75
                    · simp [w2]
                    · simp [w, w2]
                rw [r269_72]
                simp (disch := first | assumption | omega | decide | (simp only [List.length_cons, List.length_nil, Nat.reduceAdd, Nat.reduceLT]; done) | fail) only [r269_74, r269_76, r269_78, r269_81, r269_82, r269_85, r269_86, r269_89, r269_91, r269_92, r269_95, r269_97, r269_99, r269_102, r269_103, r269_106, r269_108, r269_109, r269_112, r269_114, r269_116, r269_117, r269_119, r269_120, r269_121, r269_122, r269_123, r269_124, r269_125, r269_129, r269_132, r269_135, r269_136, r269_139, r269_140, r269_142, r269_143, r269_144, r269_147, r269_148, r269_149, r269_152, r269_154, r269_155, r269_156, r269_157, r269_158, r269_161, r269_162, r269_164, r269_165, r269_166, r269_169, r269_170, r269_171, r269_174, r269_176, r269_177, r269_178, r269_179, r269_180 (x := 0) (Or.inl rfl), r269_180 (x := 1) (Or.inr rfl), r269_180 (b2i_or _), mh_o h, gm_73, gm_70, gm_72, gm_75, gm_76, gI, pI, gL, pL, hm_73 h, hm_70 h, hm_72 h, hm_75 h, hm_76 h, sm_70 h, sm_75 h, sm_76 h, lu_ne, lu_at, iu_ne, iu_at, j1, b80, hya, neq, Tj, gi, gj, lc, q269_126 ks h.ci, WPo_some, List.getElem?_cons_succ, List.getElem?_cons_zero, kil_n, kil_i, kil_a, kil_u, kil_l, Option.toList_some, Option.toList_none, List.cons_append, List.nil_append, List.set_cons_succ, List.set_cons_zero, addm1, Nat.reduceAdd, List.length_cons, List.length_nil, Nat.reduceLT, nI_clamp, nI_toInt, nI_leL, nI_Lle, nI_ltL, nI_Llt, nI_eqL, nI_Leq, nI_leE, nI_ltE, nI_eqE, nI_eqM, nI_add, nI_addL, nI_Ladd, nI_mulL, nI_Lmul, pk_mul, pk_sub, nI_subL, nI_Lsub, i2l_nI, Int.toNat_natCast, Nat.not_lt_zero, Nat.zero_le, ifT, ifF, not_true_eq_false, not_false_eq_true, if_true, if_false, or_self, and_self, true_and, and_true, or_true, true_or, false_or, or_false, false_and, and_false, show ¬ (1 : Int32) = 0 by decide]
                exact congrArg (fun q => mh E ah m ma v q (lu (lu al 70 (Tb xa ya)) 71 L')) lc2
              · rw [iu_ne (by decide), iu_at, upd_ne (by decide), upd_at]
              · rw [iu_at, upd_ne (by decide), upd_at]
              · rw [iu_ne (by decide), iu_at, upd_at]
              · rw [iu_at, upd_at]
              · rw [l2i_rg rg, l2i_rg rgj]
                exact ⟨hij, hj, mem, memj, hsm⟩
              · intro X Y hP
                rw [l2i_rg rg, l2i_rg rgj]
                obtain ⟨q, q1, q2⟩ := (i3.2 X).mp hP.2.2.1
                have q2 : (al 72 (80 * i + q)).toInt = X := q2
                by_cases w : q < x
                · rw [← q2] at hP
                  exact absurd hP (hq q Y w)
                · have le : xa.toInt ≤ X := by
                    rw [← q2, ← hxa]
                    by_cases e : q = x
                    · rw [e]; exact Int.le_refl _
                    · exact i3.1 x q (by omega) q1
                  by_cases eq : xa.toInt = X
                  · refine Or.inr ⟨eq, ?_⟩
                    rw [← eq] at hP
                    obtain ⟨p, p1, p2⟩ := (j3.2 Y).mp hP.2.2.2.1
                    have p2 : (al 72 (80 * j + p)).toInt = Y := p2
                    by_cases w2 : p < y
                    · rw [← p2] at hP
                      exact absurd hP (hqy p w2)
                    · rw [← p2, ← hya]
                      by_cases e : p = y
                      · rw [e]; exact Int.le_refl _
                      · exact j3.1 y p (by omega) p1
                  · exact Or.inl (by omega)
            · subst e1
              obtain ⟨r, ai', al', w, hw⟩ := ihy (y + 1) ya L' (by omega) (fun q q1 => by
                by_cases e : q = y
                · rw [e, hya]
                  exact fun hP => hsm hP.2.2.2.2
                · exact hqy q (by omega))
              refine ⟨r, ai', al', ?_, hw⟩
              rw [r269_72]
              simp (disch := first | assumption | omega | decide | (simp only [List.length_cons, List.length_nil, Nat.reduceAdd, Nat.reduceLT]; done) | fail) only [r269_74, r269_76, r269_78, r269_81, r269_82, r269_85, r269_86, r269_89, r269_91, r269_92, r269_95, r269_97, r269_99, r269_102, r269_103, r269_106, r269_108, r269_109, r269_112, r269_114, r269_116, r269_117, r269_119, r269_120, r269_121, r269_122, r269_123, r269_124, r269_125, r269_129, r269_132, r269_181, r269_184, mh_o h, gm_73, gm_70, gm_72, gI, gL, pL, hm_73 h, hm_70 h, hm_72 h, sm_70 h, lu_ne, lu_at, j1, b80, hya, neq, Tj, lc, q269_126 ks h.ci, WPo_some, List.getElem?_cons_succ, List.getElem?_cons_zero, kil_n, kil_i, kil_a, kil_u, kil_l, Option.toList_some, Option.toList_none, List.cons_append, List.nil_append, List.set_cons_succ, List.set_cons_zero, addm1, Nat.reduceAdd, List.length_cons, List.length_nil, Nat.reduceLT, nI_clamp, nI_toInt, nI_leL, nI_Lle, nI_ltL, nI_Llt, nI_eqL, nI_Leq, nI_leE, nI_ltE, nI_eqE, nI_eqM, nI_add, nI_addL, nI_Ladd, nI_mulL, nI_Lmul, pk_mul, pk_sub, nI_subL, nI_Lsub, i2l_nI, Int.toNat_natCast, Nat.not_lt_zero, Nat.zero_le, ifT, ifF, not_true_eq_false, not_false_eq_true, if_true, if_false, or_self, and_self, true_and, and_true, or_true, true_or, false_or, or_false, false_and, and_false]
              exact w
        obtain ⟨r, ai', al', w, hw⟩ := inner cj 0 (al 70 j) L (by omega) (fun q hq => absurd hq (by omega))
        refine ⟨r, ai', al', ?_, hw⟩
        have e1 := Ti u (al 70 j) xa
        rw [r269_37]
        simp (disch := first | assumption | omega | decide | (simp only [List.length_cons, List.length_nil, Nat.reduceAdd, Nat.reduceLT]; done) | fail) only [r269_39, r269_40, r269_43, r269_45, r269_46, r269_49, r269_50, r269_53, r269_55, r269_56, r269_59, r269_61, r269_63, r269_64, r269_66, r269_67, r269_68, r269_69, r269_70, mh_o h, gm_73, gm_70, gm_72, gI, gL, pL, hm_73 h, hm_70 h, hm_72 h, sm_70 h, lu_ne, lu_at, i1, b80, hxa, e1, lc, WPo_some, List.getElem?_cons_succ, List.getElem?_cons_zero, kil_n, kil_i, kil_a, kil_u, kil_l, Option.toList_some, Option.toList_none, List.cons_append, List.nil_append, List.set_cons_succ, List.set_cons_zero, addm1, Nat.reduceAdd, List.length_cons, List.length_nil, Nat.reduceLT, nI_clamp, nI_toInt, nI_leL, nI_Lle, nI_ltL, nI_Llt, nI_eqL, nI_Leq, nI_leE, nI_ltE, nI_eqE, nI_eqM, nI_add, nI_addL, nI_Ladd, nI_mulL, nI_Lmul, pk_mul, pk_sub, nI_subL, nI_Lsub, i2l_nI, Int.toNat_natCast, Nat.not_lt_zero, Nat.zero_le, ifT, ifF, not_true_eq_false, not_false_eq_true, if_true, if_false, or_self, and_self, true_and, and_true, or_true, true_or, false_or, or_false, false_and, and_false]
        exact w
    obtain ⟨r, ai', al', w, hw⟩ := loop ci 0 (al 70 i) L0 none (by omega) (fun q y hq => absurd hq (by omega))
    refine ⟨r, ai', al', e269 ?_, hw⟩
    rw [T0, lu_self] at w
    simp (disch := first | assumption | omega | decide | (simp only [List.length_cons, List.length_nil, Nat.reduceAdd, Nat.reduceLT]; done) | fail) only [r269_0, r269_1, r269_2, r269_3, r269_4, r269_6, r269_11, r269_14, r269_15 (x := 0) (Or.inl rfl), r269_15 (x := 1) (Or.inr rfl), r269_15 (b2i_or _), r269_16, r269_17, r269_20, r269_22, r269_23, r269_25, r269_26, r269_29, r269_31, r269_32, r269_34, r269_35, mh_o h, gm_70, gL, hm_70 h, lu_ne, q269_8 k0 h.ci, WPo_some, List.getElem?_cons_succ, List.getElem?_cons_zero, kil_n, kil_i, kil_a, kil_u, kil_l, Option.toList_some, Option.toList_none, List.cons_append, List.nil_append, List.set_cons_succ, List.set_cons_zero, addm1, Nat.reduceAdd, List.length_cons, List.length_nil, Nat.reduceLT, nI_clamp, nI_toInt, nI_leL, nI_Lle, nI_ltL, nI_Llt, nI_eqL, nI_Leq, nI_leE, nI_ltE, nI_eqE, nI_eqM, nI_add, nI_addL, nI_Ladd, nI_mulL, nI_Lmul, pk_mul, pk_sub, nI_subL, nI_Lsub, i2l_nI, Int.toNat_natCast, Nat.not_lt_zero, Nat.zero_le, ifT, ifF, not_true_eq_false, not_false_eq_true, if_true, if_false, or_self, and_self, true_and, and_true, or_true, true_or, false_or, or_false, false_and, and_false, show ¬ (1 : Int32) = 0 by decide]
    exact w
  · subst e0
    refine ⟨0, ai, lu al 71 L0, e269 ?_, ⟨fun _ _ _ => rfl, fun q q1 q2 => lu_ne q2⟩, Or.inr ⟨rfl, rfl, lu_ne (by decide), fun x y hP => ((sm2 h1 h4 nij).mp hP.2.2.2.2).1 R⟩⟩
    simp (disch := first | assumption | omega | decide | (simp only [List.length_cons, List.length_nil, Nat.reduceAdd, Nat.reduceLT]; done) | fail) only [r269_0, r269_1, r269_2, r269_3, r269_4, r269_6, r269_11, r269_14, r269_15 (x := 0) (Or.inl rfl), r269_15 (x := 1) (Or.inr rfl), r269_15 (b2i_or _), q269_8 k0 h.ci, WPo_some, List.getElem?_cons_succ, List.getElem?_cons_zero, kil_n, kil_i, kil_a, kil_u, kil_l, Option.toList_some, Option.toList_none, List.cons_append, List.nil_append, List.set_cons_succ, List.set_cons_zero, addm1, Nat.reduceAdd, List.length_cons, List.length_nil, Nat.reduceLT, not_true_eq_false, not_false_eq_true, if_true, if_false, or_self, and_self, true_and, and_true, or_true, true_or, false_or, or_false, false_and, and_false]
end MCP

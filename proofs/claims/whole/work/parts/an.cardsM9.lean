/-! The model's cards: the call -/
noncomputable def cpR (ai ai' : Nat → Nat → Int32) (al al' : Nat → Nat → Int64) (i : Nat) : Prop := (∀ k, ¬ (43 ≤ k ∧ k ≤ 48) → ai' k = ai k) ∧ (∀ k, k ≠ 56 → al' k = al k) ∧ (∀ q, i ≤ q → ai' 45 q = ai 45 q) ∧ ∀ q, q < i → ai' 43 q = ai 49 q ∧ ai' 44 q = ai 50 q ∧ ai' 45 q = ai 51 q ∧ ai' 46 q = ai 52 q ∧ ai' 47 q = ai 53 q ∧ ai' 48 q = ai 54 q ∧ al' 56 q = al 57 q
/-- a card as the model has laid it in -/
noncomputable def mkJ (ai : Nat → Nat → Int32) (al : Nat → Nat → Int64) (i : Nat) (C : aCd) : Prop := ai 43 i = nI C.1 ∧ ai 48 i = nI C.2.1 ∧ (0 < plc C.1 → ai 44 i = nI (C.2.2.1 0)) ∧ (1 < plc C.1 → ai 45 i = nI (C.2.2.1 1)) ∧ (2 < plc C.1 → ai 46 i = nI (C.2.2.1 2)) ∧ (3 < plc C.1 → ai 47 i = nI (C.2.2.1 3)) ∧ (C.1 = 6 ∨ C.1 = 7 → ai 44 i = nI (C.2.2.1 0)) ∧ (C.1 = 0 → al 56 i = C.2.2.2.2)
section MCA
variable {E : aEnv} {c m : Nat} {ah : aHp} {ma : Nat → Nat} {v : Nat → Value} {ai : Nat → Nat → Int32} {al : Nat → Nat → Int64} {T : Nat → Int32} {n : Nat}
theorem l_mC (h : MO E ah m ma) {cn : Nat} (hc : cn ≤ 40) (h42 : v 42 = .int (nI cn)) (h41 : v 41 = .int (nI cn)) {l1 : Int32} {l3 : Option Value} : ∀ z i ai' al', i + z = cn → cpR ai ai' al al' i → WP E c 252 221 [some (.ref m), some (.int l1), some (.int (nI i)), l3] [] (mh E ah m ma v ai' al') (fun r x => r = some (.int (nI cn)) ∧ ∃ ai'' al'', x = mh E ah m ma v ai'' al'' ∧ cpR ai ai'' al al'' cn)
  | 0, i, ai', al', hz, hR => by
    rw [show i = cn by omega] at hR ⊢
    rw [r252_221]
    simp (disch := first | assumption | omega | decide | (simp only [List.length_cons, List.length_nil, Nat.reduceAdd, Nat.reduceLT]; done) | fail) only [r252_222, r252_223, r252_226, r252_319, r252_320, r252_323, mh_o h, gm_42, gm_41, h42, h41, WPo_some, List.getElem?_cons_succ, List.getElem?_cons_zero, kil_n, kil_i, kil_a, kil_u, kil_l, Option.toList_some, Option.toList_none, List.cons_append, List.nil_append, List.set_cons_succ, List.set_cons_zero, addm1, Nat.reduceAdd, List.length_cons, List.length_nil, Nat.reduceLT, nI_clamp, nI_toInt, nI_leL, nI_Lle, nI_ltL, nI_Llt, nI_eqL, nI_Leq, nI_leE, nI_ltE, nI_eqE, nI_eqM, nI_add, nI_addL, nI_Ladd, nI_mulL, nI_Lmul, pk_mul, pk_sub, nI_subL, nI_Lsub, i2l_nI, Int.toNat_natCast, Nat.not_lt_zero, Nat.zero_le, ifT, ifF, not_true_eq_false, not_false_eq_true, if_true, if_false, or_self, and_self, true_and, and_true, or_true, true_or, false_or, or_false, false_and, and_false]
    exact ⟨_, _, rfl, hR⟩
  | z + 1, i, ai', al', hz, hR => by
    have ih := l_mC h hc h42 h41 (l1 := l1) (l3 := l3) z (i + 1) (iu (iu (iu (iu (iu (iu ai' 43 (upd (ai' 43) i (ai' 49 i))) 44 (upd (ai' 44) i (ai' 50 i))) 45 (upd (ai' 45) i (ai' 51 i))) 46 (upd (ai' 46) i (ai' 52 i))) 47 (upd (ai' 47) i (ai' 53 i))) 48 (upd (ai' 48) i (ai' 54 i))) (lu al' 56 (vp_updL (al' 56) i (al' 57 i))) (by omega) (by
      obtain ⟨r1, r2, r4, r3⟩ := hR
      refine ⟨fun k hk => ?_, fun k hk => by rw [lu_ne hk, r2 k hk], fun q hq => ?_, fun q hq => ?_⟩
      · rw [iu_ne (by omega), iu_ne (by omega), iu_ne (by omega), iu_ne (by omega), iu_ne (by omega), iu_ne (by omega), r1 k hk]
      · rw [iu_ne (by omega), iu_ne (by omega), iu_ne (by omega), iu_at, upd_ne (by omega), r4 q (by omega)]
      · by_cases y : q = i
        · subst y
          simp (disch := first | assumption | omega | decide | (simp only [List.length_cons, List.length_nil, Nat.reduceAdd, Nat.reduceLT]; done) | fail) only [iu_at, iu_ne, lu_at, upd_at, vup_at, r1, r2]
          exact ⟨trivial, trivial, trivial, trivial, trivial, trivial, trivial⟩
        · have := r3 q (by omega)
          simp (disch := first | assumption | omega | decide | (simp only [List.length_cons, List.length_nil, Nat.reduceAdd, Nat.reduceLT]; done) | fail) only [iu_at, iu_ne, lu_at, upd_ne, vup_ne, y]
          exact this)
    rw [r252_221]
    simp (disch := first | assumption | omega | decide | (simp only [List.length_cons, List.length_nil, Nat.reduceAdd, Nat.reduceLT]; done) | fail) only [r252_222, r252_223, r252_226, r252_229, r252_230, r252_233, r252_234, r252_235, r252_238, r252_239, r252_240, r252_241, r252_242, r252_245, r252_246, r252_247, r252_250, r252_251, r252_252, r252_253, r252_254, r252_257, r252_258, r252_259, r252_262, r252_263, r252_264, r252_265, r252_266, r252_269, r252_270, r252_271, r252_274, r252_275, r252_276, r252_277, r252_278, r252_281, r252_282, r252_283, r252_286, r252_287, r252_288, r252_289, r252_290, r252_293, r252_294, r252_295, r252_298, r252_299, r252_300, r252_301, r252_302, r252_305, r252_306, r252_307, r252_310, r252_311, r252_312, r252_313, r252_316, mh_o h, gm_42, gm_43, gm_44, gm_45, gm_46, gm_47, gm_48, gm_49, gm_50, gm_51, gm_52, gm_53, gm_54, gm_56, gm_57, h42, gI, pI, gL, pL, hm_43 h, hm_44 h, hm_45 h, hm_46 h, hm_47 h, hm_48 h, hm_49 h, hm_50 h, hm_51 h, hm_52 h, hm_53 h, hm_54 h, hm_56 h, hm_57 h, sm_43 h, sm_44 h, sm_45 h, sm_46 h, sm_47 h, sm_48 h, sm_56 h, iu_ne, WPo_some, List.getElem?_cons_succ, List.getElem?_cons_zero, kil_n, kil_i, kil_a, kil_u, kil_l, Option.toList_some, Option.toList_none, List.cons_append, List.nil_append, List.set_cons_succ, List.set_cons_zero, addm1, Nat.reduceAdd, List.length_cons, List.length_nil, Nat.reduceLT, nI_clamp, nI_toInt, nI_leL, nI_Lle, nI_ltL, nI_Llt, nI_eqL, nI_Leq, nI_leE, nI_ltE, nI_eqE, nI_eqM, nI_add, nI_addL, nI_Ladd, nI_mulL, nI_Lmul, pk_mul, pk_sub, nI_subL, nI_Lsub, i2l_nI, Int.toNat_natCast, Nat.not_lt_zero, Nat.zero_le, ifT, ifF, not_true_eq_false, not_false_eq_true, if_true, if_false, or_self, and_self, true_and, and_true, or_true, true_or, false_or, or_false, false_and, and_false]
    exact ih
theorem m_cards_no (h : MO E ah m ma) {tl : Nat} (htl : tl ≤ 500) (h29 : v 29 = .int (nI tl)) {x : Int32} (hx : ¬ (0 ≤ x.toInt ∧ x.toInt ≤ tl)) : EV E (c + 1) 252 [.ref m, .int x] (mh E ah m ma v ai al) (some (.int (-1))) (mh E ah m ma (vu (vu v 1 (.int 0)) 0 (.int 5)) ai al) := by
  refine e252 ?_
  by_cases y : x < 0
  · simp (disch := first | assumption | omega | decide | (simp only [List.length_cons, List.length_nil, Nat.reduceAdd, Nat.reduceLT]; done) | fail) only [r252_0, r252_1, r252_2, r252_5, r252_6, r252_7, r252_10, r252_11, r252_14, r252_15, r252_16, r252_19, r252_22, r252_23, r252_27, mh_o h, mh_put h, pm_1, pm_0, y, q252_24 (m_refuse h) h.ci, vu_vu, WPo_some, List.getElem?_cons_succ, List.getElem?_cons_zero, kil_n, kil_i, kil_a, kil_u, kil_l, Option.toList_some, Option.toList_none, List.cons_append, List.nil_append, List.set_cons_succ, List.set_cons_zero, addm1, Nat.reduceAdd, List.length_cons, List.length_nil, Nat.reduceLT, not_true_eq_false, not_false_eq_true, if_true, if_false, or_self, and_self, true_and, and_true, or_true, true_or, false_or, or_false, false_and, and_false]
  · have y2 : ¬ x ≤ nI tl := by
      simp only [i32_lt, i32_le, i64_lt, i64_le, i2l_toInt, Int32.reduceToInt, Int64.reduceToInt] at y ⊢
      rw [nI_toInt (by omega)]
      omega
    have g : vu (vu v 1 (.int 0)) 0 (.int 0) 29 = .int (nI tl) := by rw [vu_ne (by decide), vu_ne (by decide), h29]
    simp (disch := first | assumption | omega | decide | (simp only [List.length_cons, List.length_nil, Nat.reduceAdd, Nat.reduceLT]; done) | fail) only [r252_0, r252_1, r252_2, r252_5, r252_6, r252_7, r252_10, r252_11, r252_14, r252_15, r252_16, r252_19, r252_22, r252_23, r252_27, mh_o h, mh_put h, pm_1, pm_0, gm_29, g, y, y2, q252_24 (m_refuse h) h.ci, vu_vu, WPo_some, List.getElem?_cons_succ, List.getElem?_cons_zero, kil_n, kil_i, kil_a, kil_u, kil_l, Option.toList_some, Option.toList_none, List.cons_append, List.nil_append, List.set_cons_succ, List.set_cons_zero, addm1, Nat.reduceAdd, List.length_cons, List.length_nil, Nat.reduceLT, not_true_eq_false, not_false_eq_true, if_true, if_false, or_self, and_self, true_and, and_true, or_true, true_or, false_or, or_false, false_and, and_false]
theorem m_cards (h : MO E ah m ma) (hT : ai 28 = T) {tl : Nat} (htl : tl ≤ 500) (h29 : v 29 = .int (nI tl)) {n : Nat} (hn : n ≤ tl) : ∃ v' ai' al', EV E (c + 7) 252 [.ref m, .int (nI n)] (mh E ah m ma v ai al) (some (.int (if (caS T n).2.1 = 0 then nI (caA T n).1 else -1))) (mh E ah m ma v' ai' al') ∧ v' 0 = .int (if (caS T n).2.1 = 0 then 0 else 10) ∧ v' 1 = .int 0 ∧ v' 29 = .int 0 ∧ v' 31 = .int (nI (caS T n).2.1) ∧ v' 32 = .int (caS T n).2.2 ∧ ((caS T n).2.1 = 0 → v' 41 = .int (nI (caA T n).1) ∧ (caA T n).1 ≤ 40 ∧ ∀ i, i < (caA T n).1 → mkJ ai' al' i ((caA T n).2.1 i) ∧ cdOK ((caA T n).2.1 i)) ∧ (¬ (caS T n).2.1 = 0 → v' 41 = v 41 ∧ (∀ k, ¬ (49 ≤ k ∧ k ≤ 55) → ai' k = ai k) ∧ ∀ k, k ≠ 57 → al' k = al k) ∧ (∀ k, ¬ (k ≤ 1 ∨ (29 ≤ k ∧ k ≤ 42)) → v' k = v k) ∧ (∀ k, ¬ (43 ≤ k ∧ k ≤ 55) → ai' k = ai k) ∧ (∀ k, ¬ (k = 56 ∨ k = 57) → al' k = al k) ∧ (bB (ai 51) → bB (ai 45) → bB (ai' 51) ∧ bB (ai' 45)) := by
  have hn5 : n ≤ 500 := by omega
  obtain ⟨v0, hv0⟩ : ∃ v0, vu (vu (vu (vu (vu (vu (vu v 1 (.int 0)) 0 (.int 0)) 30 (.int (nI n))) 29 (.int 0)) 37 (.int 0)) 33 (.int 0)) 42 (.int 0) = v0 := ⟨_, rfl⟩
  have z30 : v0 30 = .int (nI n) := by rw [← hv0]; simp (disch := first | assumption | omega | decide | (simp only [List.length_cons, List.length_nil, Nat.reduceAdd, Nat.reduceLT]; done) | fail) only [vu_ne, vu_at]
  have z37 : v0 37 = .int 0 := by rw [← hv0]; simp (disch := first | assumption | omega | decide | (simp only [List.length_cons, List.length_nil, Nat.reduceAdd, Nat.reduceLT]; done) | fail) only [vu_ne, vu_at]
  have z33 : v0 33 = .int 0 := by rw [← hv0]; simp (disch := first | assumption | omega | decide | (simp only [List.length_cons, List.length_nil, Nat.reduceAdd, Nat.reduceLT]; done) | fail) only [vu_ne, vu_at]
  have z42 : v0 42 = .int 0 := by rw [← hv0]; simp (disch := first | assumption | omega | decide | (simp only [List.length_cons, List.length_nil, Nat.reduceAdd, Nat.reduceLT]; done) | fail) only [vu_ne, vu_at]
  have z29 : v0 29 = .int 0 := by rw [← hv0]; simp (disch := first | assumption | omega | decide | (simp only [List.length_cons, List.length_nil, Nat.reduceAdd, Nat.reduceLT]; done) | fail) only [vu_ne, vu_at]
  have z0 : v0 0 = .int 0 := by rw [← hv0]; simp (disch := first | assumption | omega | decide | (simp only [List.length_cons, List.length_nil, Nat.reduceAdd, Nat.reduceLT]; done) | fail) only [vu_ne, vu_at]
  have z1 : v0 1 = .int 0 := by rw [← hv0]; simp (disch := first | assumption | omega | decide | (simp only [List.length_cons, List.length_nil, Nat.reduceAdd, Nat.reduceLT]; done) | fail) only [vu_ne, vu_at]
  have zn : ∀ k, k ≠ 0 → k ≠ 1 → k ≠ 30 → k ≠ 29 → k ≠ 37 → k ≠ 33 → k ≠ 42 → v0 k = v k := fun k a1 a2 a3 a4 a5 a6 a7 => by rw [← hv0, vu_ne a7, vu_ne a6, vu_ne a5, vu_ne a4, vu_ne a3, vu_ne a1, vu_ne a2]
  obtain ⟨v1, k1, c1, f1⟩ := m_next (E := E) (c := c + 4) (v := v0) (ai := ai) (al := al) h hT hn5 (p := 0) (fa := 0) (fp := -1) (Nat.zero_le _) z30 z37 z33 (fun z => absurd rfl z)
  let P : (Nat → Value) → (Nat → Nat → Int32) → (Nat → Nat → Int64) → Prop := fun v' ai' al' => v' 0 = .int (if (caS T n).2.1 = 0 then 0 else 10) ∧ v' 1 = .int 0 ∧ v' 29 = .int 0 ∧ v' 31 = .int (nI (caS T n).2.1) ∧ v' 32 = .int (caS T n).2.2 ∧ ((caS T n).2.1 = 0 → v' 41 = .int (nI (caA T n).1) ∧ (caA T n).1 ≤ 40 ∧ ∀ i, i < (caA T n).1 → mkJ ai' al' i ((caA T n).2.1 i) ∧ cdOK ((caA T n).2.1 i)) ∧ (¬ (caS T n).2.1 = 0 → v' 41 = v 41 ∧ (∀ k, ¬ (49 ≤ k ∧ k ≤ 55) → ai' k = ai k) ∧ ∀ k, k ≠ 57 → al' k = al k) ∧ (∀ k, ¬ (k ≤ 1 ∨ (29 ≤ k ∧ k ≤ 42)) → v' k = v k) ∧ (∀ k, ¬ (43 ≤ k ∧ k ≤ 55) → ai' k = ai k) ∧ (∀ k, ¬ (k = 56 ∨ k = 57) → al' k = al k) ∧ (bB (ai 51) → bB (ai 45) → bB (ai' 51) ∧ bB (ai' 45))
  let Q : Option Value → aHp → Prop := fun r x => r = some (.int (if (caS T n).2.1 = 0 then nI (caA T n).1 else -1)) ∧ ∃ v' ai' al', x = mh E ah m ma v' ai' al' ∧ P v' ai' al'
  have main := l_mL (E := E) (c := c + 1) (T := T) h hn5 (l1 := some (.int (nI n))) (l2 := none) (l3 := none) (Q := Q) 41 0 caD (gon 0) v1 ai al (by omega) (by omega) (ok_gon (Nat.zero_le _)) rfl c1 (by rw [f1 42 (by omega), z42]; rfl) hT (fun i hi => absurd hi (by omega)) (fun v2 ai2 al2 o2 c2 d2 b2 i2 F2 => by
    have ea : rdA T n 41 0 caD (gon 0) = caA T n := rfl
    rw [ea] at o2 c2 d2 b2 i2
    -- the end, from place 170
    have fin : ∀ (w : Nat → Value) (l2 l3 : Option Value), okP n (caS T n) → cdM w T n (caS T n) → frR v2 w → WP E (c + 7) 252 170 [some (.ref m), some (.int (nI n)), l2, l3] [] (mh E ah m ma w ai2 al2) Q := by
      intro w l2 l3 oS cS fw
      have oS2 := oS.2.1
      have g33 : w 33 = .int (nI (caS T n).2.1) := cS.2.1
      have wk : ∀ k, ¬ (33 ≤ k ∧ k ≤ 40) → k ≠ 42 → w k = v0 k := fun k p1 p2 => by rw [fw k p1, F2.1 k p1 p2, f1 k p1]
      have w42 : w 42 = .int (nI (caA T n).1) := by rw [fw 42 (by omega), d2]
      by_cases y : (caS T n).2.1 = 0
      · have yp := oS.2.2 y
        rw [y] at g33
        obtain ⟨w', hw'⟩ : ∃ w', vu (vu (vu w 31 (.int 0)) 32 (.int (-1))) 41 (.int (nI (caA T n).1)) = w' := ⟨_, rfl⟩
        have t42 : w' 42 = .int (nI (caA T n).1) := by rw [← hw']; simp (disch := first | assumption | omega | decide | (simp only [List.length_cons, List.length_nil, Nat.reduceAdd, Nat.reduceLT]; done) | fail) only [vu_ne, w42]
        have t41 : w' 41 = .int (nI (caA T n).1) := by rw [← hw', vu_at]
        have l := l_mC (E := E) (c := c + 7) (v := w') (ai := ai2) (al := al2) h b2 t42 t41 (l1 := nI n) (l3 := l3) (caA T n).1 0 ai2 al2 (by omega) ⟨fun _ _ => rfl, fun _ _ => rfl, fun _ _ => rfl, fun q hq => absurd hq (by omega)⟩
        have l' := WP.mono l (Q' := Q) (by
          rintro r x ⟨e1, ai3, al3, e2, r1, r2, r4, r3⟩
          refine ⟨by rw [e1, if_pos y], w', ai3, al3, e2, ?_, ?_, ?_, ?_, ?_, fun _ => ⟨t41, b2, fun i hi => ?_⟩, fun z => absurd y z, fun k hk => ?_, fun k hk => ?_, fun k hk => ?_, fun hB1 hB2 => ?_⟩
          · rw [← hw', if_pos y]; simp (disch := first | assumption | omega | decide | (simp only [List.length_cons, List.length_nil, Nat.reduceAdd, Nat.reduceLT]; done) | fail) only [vu_ne, wk, z0]
          · rw [← hw']; simp (disch := first | assumption | omega | decide | (simp only [List.length_cons, List.length_nil, Nat.reduceAdd, Nat.reduceLT]; done) | fail) only [vu_ne, wk, z1]
          · rw [← hw']; simp (disch := first | assumption | omega | decide | (simp only [List.length_cons, List.length_nil, Nat.reduceAdd, Nat.reduceLT]; done) | fail) only [vu_ne, wk, z29]
          · rw [← hw', y]; simp (disch := first | assumption | omega | decide | (simp only [List.length_cons, List.length_nil, Nat.reduceAdd, Nat.reduceLT]; done) | fail) only [vu_ne, vu_at]; rfl
          · rw [← hw', yp]; simp (disch := first | assumption | omega | decide | (simp only [List.length_cons, List.length_nil, Nat.reduceAdd, Nat.reduceLT]; done) | fail) only [vu_ne, vu_at]
          · obtain ⟨⟨a1, a2, a3, a4, a5, a6, a7, a8⟩, o⟩ := i2 i hi
            obtain ⟨b1, b2, b3, b4, b5, b6, b7⟩ := r3 i hi
            exact ⟨⟨by rw [b1]; exact a1, by rw [b6]; exact a2, fun z => by rw [b2]; exact a3 z, fun z => by rw [b3]; exact a4 z, fun z => by rw [b4]; exact a5 z, fun z => by rw [b5]; exact a6 z, fun z => by rw [b2]; exact (a7 z).1, fun z => by rw [b7]; exact a8 z⟩, o⟩
          · rw [← hw', vu_ne (by omega), vu_ne (by omega), vu_ne (by omega), wk k (by omega) (by omega), zn k (by omega) (by omega) (by omega) (by omega) (by omega) (by omega) (by omega)]
          · rw [r1 k (by omega), F2.2.1 k (by omega)]
          · rw [r2 k (by omega), F2.2.2.1 k (by omega)]
          · have b51 := F2.2.2.2 hB1
            refine ⟨by rw [r1 51 (by omega)]; exact b51, fun q => ?_⟩
            by_cases w : q < (caA T n).1
            · rw [(r3 q w).2.2.1]
              exact b51 q
            · rw [r4 q (by omega), F2.2.1 45 (by omega)]
              exact hB2 q)
        simp (disch := first | assumption | omega | decide | (simp only [List.length_cons, List.length_nil, Nat.reduceAdd, Nat.reduceLT]; done) | fail) only [r252_170, r252_171, r252_172, r252_175, r252_178, r252_179, r252_180, r252_183, r252_186, r252_187, r252_190, r252_191, r252_194, r252_197, r252_198, r252_201, r252_204, r252_205, r252_210, r252_211, r252_212, r252_213, r252_216, r252_219, r252_220, mh_o h, mh_put h, gm_33, gm_42, pm_31, pm_32, pm_41, g33, w42, vu_at, vu_ne, hw', WPo_some, List.getElem?_cons_succ, List.getElem?_cons_zero, kil_n, kil_i, kil_a, kil_u, kil_l, Option.toList_some, Option.toList_none, List.cons_append, List.nil_append, List.set_cons_succ, List.set_cons_zero, addm1, Nat.reduceAdd, List.length_cons, List.length_nil, Nat.reduceLT, nI_clamp, nI_toInt, nI_leL, nI_Lle, nI_ltL, nI_Llt, nI_eqL, nI_Leq, nI_leE, nI_ltE, nI_eqE, nI_eqM, nI_add, nI_addL, nI_Ladd, nI_mulL, nI_Lmul, pk_mul, pk_sub, nI_subL, nI_Lsub, i2l_nI, Int.toNat_natCast, Nat.not_lt_zero, Nat.zero_le, ifT, ifF, not_true_eq_false, not_false_eq_true, if_true, if_false, or_self, and_self, true_and, and_true, or_true, true_or, false_or, or_false, false_and, and_false, show (nI 0 : Int32) = 0 from rfl, show (0 : Int32) ≤ 0 by decide]
        exact l'
      · have g34 : w 34 = .int (caS T n).2.2 := cS.2.2.1 y
        refine ?_
        simp (disch := first | assumption | omega | decide | (simp only [List.length_cons, List.length_nil, Nat.reduceAdd, Nat.reduceLT]; done) | fail) only [r252_170, r252_171, r252_172, r252_175, r252_178, r252_179, r252_180, r252_183, r252_186, r252_187, r252_190, r252_191, r252_194, r252_197, r252_198, r252_201, r252_204, r252_205, r252_210, mh_o h, mh_put h, gm_33, gm_34, pm_31, pm_32, g33, g34, vu_at, vu_ne, y, show ¬ (caS T n).2.1 ≤ 0 by omega, q252_207 (m_refuse h) h.ci, WPo_some, List.getElem?_cons_succ, List.getElem?_cons_zero, kil_n, kil_i, kil_a, kil_u, kil_l, Option.toList_some, Option.toList_none, List.cons_append, List.nil_append, List.set_cons_succ, List.set_cons_zero, addm1, Nat.reduceAdd, List.length_cons, List.length_nil, Nat.reduceLT, nI_clamp, nI_toInt, nI_leL, nI_Lle, nI_ltL, nI_Llt, nI_eqL, nI_Leq, nI_leE, nI_ltE, nI_eqE, nI_eqM, nI_add, nI_addL, nI_Ladd, nI_mulL, nI_Lmul, pk_mul, pk_sub, nI_subL, nI_Lsub, i2l_nI, Int.toNat_natCast, Nat.not_lt_zero, Nat.zero_le, ifT, ifF, not_true_eq_false, not_false_eq_true, if_true, if_false, or_self, and_self, true_and, and_true, or_true, true_or, false_or, or_false, false_and, and_false]
        refine ⟨by rw [if_neg y], _, _, _, rfl, ?_, ?_, ?_, ?_, ?_, fun z => absurd z y, fun _ => ⟨?_, fun k hk => F2.2.1 k hk, fun k hk => F2.2.2.1 k hk⟩, fun k hk => ?_, fun k hk => F2.2.1 k (by omega), fun k hk => F2.2.2.1 k (by omega), fun hB1 hB2 => ⟨F2.2.2.2 hB1, by rw [F2.2.1 45 (by omega)]; exact hB2⟩⟩
        · rw [vu_at, if_neg y]
        · simp (disch := first | assumption | omega | decide | (simp only [List.length_cons, List.length_nil, Nat.reduceAdd, Nat.reduceLT]; done) | fail) only [vu_ne, wk, z1]
        · simp (disch := first | assumption | omega | decide | (simp only [List.length_cons, List.length_nil, Nat.reduceAdd, Nat.reduceLT]; done) | fail) only [vu_ne, wk, z29]
        · simp (disch := first | assumption | omega | decide | (simp only [List.length_cons, List.length_nil, Nat.reduceAdd, Nat.reduceLT]; done) | fail) only [vu_ne, vu_at]
        · simp (disch := first | assumption | omega | decide | (simp only [List.length_cons, List.length_nil, Nat.reduceAdd, Nat.reduceLT]; done) | fail) only [vu_ne, vu_at]
        · rw [vu_ne (by decide), vu_ne (by decide), vu_ne (by decide), wk 41 (by omega) (by omega), zn 41 (by omega) (by omega) (by omega) (by omega) (by omega) (by omega) (by omega)]
        · rw [vu_ne (by omega), vu_ne (by omega), vu_ne (by omega), wk k (by omega) (by omega), zn k (by omega) (by omega) (by omega) (by omega) (by omega) (by omega) (by omega)]
    by_cases y : (caA T n).2.2.2.1 = 0
    · have eS : caS T n = ckS (caA T n).2.2.1 (ckL (caA T n).2.1 (caA T n).1 (caA T n).1 0) := if_pos y
      have eg := gon_eq o2 y
      have c2' : cdM v2 T n (gon (caA T n).2.2.1) := by rw [eg]; exact c2
      have okS : okP n (caS T n) := by
        rw [eS]
        unfold ckS
        split
        · exact ⟨o2.1, by show 5 ≤ 5; decide, fun z => absurd (show 5 = 0 from z) (by decide)⟩
        · exact ok_gon o2.1
      have l := l_mK (E := E) (c := c + 6) (v := v2) (ai := ai2) (al := al2) h b2 i2 c2' d2 (l1 := nI n) (Q := Q) (caA T n).1 0 none (by omega) (fun v' l2 l3 q1 q2 => by
        rw [← eS] at q1
        exact fin v' l2 l3 okS q1 q2)
      simp (disch := first | assumption | omega | decide | (simp only [List.length_cons, List.length_nil, Nat.reduceAdd, Nat.reduceLT]; done) | fail) only [r252_78, r252_79, WPo_some, List.getElem?_cons_succ, List.getElem?_cons_zero, kil_n, kil_i, kil_a, kil_u, kil_l, Option.toList_some, Option.toList_none, List.cons_append, List.nil_append, List.set_cons_succ, List.set_cons_zero, addm1, Nat.reduceAdd, List.length_cons, List.length_nil, Nat.reduceLT]
      exact l
    · have eS : caS T n = (caA T n).2.2 := if_neg y
      have fin := fin v2 (some (.int (nI 0))) none (by rw [eS]; exact o2) (by rw [eS]; exact c2) frR_rf
      have g33 : v2 33 = .int (nI (caA T n).2.2.2.1) := c2.2.1
      have o22 := o2.2.1
      simp (disch := first | assumption | omega | decide | (simp only [List.length_cons, List.length_nil, Nat.reduceAdd, Nat.reduceLT]; done) | fail) only [r252_78, r252_79, WPo_some, List.getElem?_cons_succ, List.getElem?_cons_zero, kil_n, kil_i, kil_a, kil_u, kil_l, Option.toList_some, Option.toList_none, List.cons_append, List.nil_append, List.set_cons_succ, List.set_cons_zero, addm1, Nat.reduceAdd, List.length_cons, List.length_nil, Nat.reduceLT]
      rw [r252_80]
      simp (disch := first | assumption | omega | decide | (simp only [List.length_cons, List.length_nil, Nat.reduceAdd, Nat.reduceLT]; done) | fail) only [r252_81, r252_84, mh_o h, gm_33, g33, y, WPo_some, List.getElem?_cons_succ, List.getElem?_cons_zero, kil_n, kil_i, kil_a, kil_u, kil_l, Option.toList_some, Option.toList_none, List.cons_append, List.nil_append, List.set_cons_succ, List.set_cons_zero, addm1, Nat.reduceAdd, List.length_cons, List.length_nil, Nat.reduceLT, nI_clamp, nI_toInt, nI_leL, nI_Lle, nI_ltL, nI_Llt, nI_eqL, nI_Leq, nI_leE, nI_ltE, nI_eqE, nI_eqM, nI_add, nI_addL, nI_Ladd, nI_mulL, nI_Lmul, pk_mul, pk_sub, nI_subL, nI_Lsub, i2l_nI, Int.toNat_natCast, Nat.not_lt_zero, Nat.zero_le, ifT, ifF, not_true_eq_false, not_false_eq_true, if_true, if_false, or_self, and_self, true_and, and_true, or_true, true_or, false_or, or_false, false_and, and_false]
      exact fin)
  obtain ⟨r1, x1, ⟨e1, v', ai', al', e2, e3⟩, w⟩ := WP.ex main
  subst e1 e2
  refine ⟨v', ai', al', e252 ?_, e3⟩
  have y1 : ¬ nI n < 0 := nI_pos (by omega)
  have y2 : nI n ≤ nI tl := by rw [nI_leE (by omega) (by omega)]; exact hn
  have g : vu (vu v 1 (.int 0)) 0 (.int 0) 29 = .int (nI tl) := by rw [vu_ne (by decide), vu_ne (by decide), h29]
  simp (disch := first | assumption | omega | decide | (simp only [List.length_cons, List.length_nil, Nat.reduceAdd, Nat.reduceLT]; done) | fail) only [r252_0, r252_1, r252_2, r252_5, r252_6, r252_7, r252_10, r252_11, r252_14, r252_15, r252_16, r252_19, r252_22, r252_23, r252_27, r252_28, r252_29, r252_30, r252_33, r252_34, r252_35, r252_38, r252_39, r252_40, r252_43, r252_44, r252_45, r252_48, r252_49, r252_50, r252_53, mh_o h, mh_put h, pm_1, pm_0, pm_30, pm_29, pm_37, pm_33, pm_42, gm_29, g, y1, y2, hv0, q252_54 k1 h.ci, WPo_some, List.getElem?_cons_succ, List.getElem?_cons_zero, kil_n, kil_i, kil_a, kil_u, kil_l, Option.toList_some, Option.toList_none, List.cons_append, List.nil_append, List.set_cons_succ, List.set_cons_zero, addm1, Nat.reduceAdd, List.length_cons, List.length_nil, Nat.reduceLT, not_true_eq_false, not_false_eq_true, if_true, if_false, or_self, and_self, true_and, and_true, or_true, true_or, false_or, or_false, false_and, and_false]
  exact w
end MCA

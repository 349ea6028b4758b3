/-! The model's cards: all cards, and whither they lead -/
section MRA
variable {E : aEnv} {c m : Nat} {ah : aHp} {ma : Nat → Nat} {v : Nat → Value} {ai : Nat → Nat → Int32} {al : Nat → Nat → Int64} {T : Nat → Int32} {n : Nat}
theorem cdM_fl2 {p k : Nat} {x : Int32} (hk : 1 ≤ k) (h : cdM v T n (gon p)) : cdM (vu (vu v 33 (.int (nI k))) 34 (.int x)) T n (p, k, x) := by
  obtain ⟨h1, h2, h3, h4, h5, h6, h7, h8, h9, h0⟩ := h
  refine ⟨?_, ?_, fun _ => vu_at, ?_, ?_, ?_, ?_, ?_, ?_, ?_⟩
  · simp (disch := first | assumption | omega | decide | (simp only [List.length_cons, List.length_nil, Nat.reduceAdd, Nat.reduceLT]; done) | fail) only [vu_ne, h1]
  · simp (disch := first | assumption | omega | decide | (simp only [List.length_cons, List.length_nil, Nat.reduceAdd, Nat.reduceLT]; done) | fail) only [vu_ne, vu_at]
  · simp (disch := first | assumption | omega | decide | (simp only [List.length_cons, List.length_nil, Nat.reduceAdd, Nat.reduceLT]; done) | fail) only [vu_ne, h4]; rfl
  · simp (disch := first | assumption | omega | decide | (simp only [List.length_cons, List.length_nil, Nat.reduceAdd, Nat.reduceLT]; done) | fail) only [vu_ne, h5]; rfl
  · simp (disch := first | assumption | omega | decide | (simp only [List.length_cons, List.length_nil, Nat.reduceAdd, Nat.reduceLT]; done) | fail) only [vu_ne, h6]; rfl
  · intro z; simp (disch := first | assumption | omega | decide | (simp only [List.length_cons, List.length_nil, Nat.reduceAdd, Nat.reduceLT]; done) | fail) only [vu_ne]; exact h7 z
  · intro z; simp (disch := first | assumption | omega | decide | (simp only [List.length_cons, List.length_nil, Nat.reduceAdd, Nat.reduceLT]; done) | fail) only [vu_ne]; exact h8 z
  · intro z; simp (disch := first | assumption | omega | decide | (simp only [List.length_cons, List.length_nil, Nat.reduceAdd, Nat.reduceLT]; done) | fail) only [vu_ne]; exact h9 z
  · intro z; simp (disch := first | assumption | omega | decide | (simp only [List.length_cons, List.length_nil, Nat.reduceAdd, Nat.reduceLT]; done) | fail) only [vu_ne]; exact h0 z
noncomputable def frCd (v v' : Nat → Value) (ai ai' : Nat → Nat → Int32) (al al' : Nat → Nat → Int64) : Prop := (∀ k, ¬ (33 ≤ k ∧ k ≤ 40) → k ≠ 42 → v' k = v k) ∧ (∀ k, ¬ (49 ≤ k ∧ k ≤ 55) → ai' k = ai k) ∧ (∀ k, k ≠ 57 → al' k = al k) ∧ (bB (ai 51) → bB (ai' 51))
theorem mkI_st {ai' : Nat → Nat → Int32} {al' : Nat → Nat → Int64} {cn i : Nat} {C : aCd} (h : mkI ai al i C) (hA : mkA ai ai' al al' cn) (hi : i ≠ cn) : mkI ai' al' i C := by
  obtain ⟨a1, a2, a3, a4, a5, a6, a7, a8⟩ := h
  have e := fun k => hA.1 k i (Or.inr hi)
  have e' := hA.2 57 i (Or.inr hi)
  exact ⟨by rw [e]; exact a1, by rw [e]; exact a2, fun z => by rw [e]; exact a3 z, fun z => by rw [e]; exact a4 z, fun z => by rw [e]; exact a5 z, fun z => by rw [e]; exact a6 z, fun z => ⟨by rw [e]; exact (a7 z).1, by rw [e]; exact (a7 z).2⟩, fun z => by rw [e']; exact a8 z⟩
theorem l_mL (h : MO E ah m ma) (hn : n ≤ 500) {l1 l2 l3 : Option Value} {Q : Option Value → aHp → Prop} : ∀ z cn (D : Nat → aCd) s v ai al, cn + z = 41 → cn ≤ 40 → okP n s → s.2.1 = 0 → cdM v T n s → v 42 = .int (nI cn) → ai 28 = T → (∀ i, i < cn → mkI ai al i (D i) ∧ cdOK (D i)) → (∀ v' ai' al', okP n (rdA T n z cn D s).2.2 → cdM v' T n (rdA T n z cn D s).2.2 → v' 42 = .int (nI (rdA T n z cn D s).1) → (rdA T n z cn D s).1 ≤ 40 → (∀ i, i < (rdA T n z cn D s).1 → mkI ai' al' i ((rdA T n z cn D s).2.1 i) ∧ cdOK ((rdA T n z cn D s).2.1 i)) → frCd v v' ai ai' al al' → WP E (c + 6) 252 78 [some (.ref m), l1, l2, l3] [] (mh E ah m ma v' ai' al') Q) → WP E (c + 6) 252 57 [some (.ref m), l1, l2, l3] [] (mh E ah m ma v ai al) Q
  | 0, cn, D, s, v, ai, al, hz, hc, hs, hf, hcd, h42, hT, hD, K => absurd hz (by omega)
  | z + 1, cn, D, s, v, ai, al, hz, hc, hs, hf, hcd, h42, hT, hD, K => by
    have t5 := nxT_le (T := T) (n := n) (p := s.1)
    have s4 := srt_le t5
    have eg := gon_eq hs hf
    have hc1 : cdM v T n (gon s.1) := by rw [eg]; exact hcd
    have h33 : v 33 = .int 0 := hc1.2.1
    have h35 : v 35 = .int (nI (srt (nxT T n s.1))) := hcd.2.2.2.1
    unfold rdA at K
    by_cases y : nxT T n s.1 = 0
    · rw [if_neg (fun w => w.2 y)] at K
      have K := K v ai al hs hcd h42 hc hD ⟨fun _ _ _ => rfl, fun _ _ => rfl, fun _ _ => rfl, fun z => z⟩
      have e0 : srt (nxT T n s.1) = 0 := by rw [srt_0 t5]; exact y
      rw [r252_57]
      simp (disch := first | assumption | omega | decide | (simp only [List.length_cons, List.length_nil, Nat.reduceAdd, Nat.reduceLT]; done) | fail) only [r252_58, r252_61, r252_64, r252_65, r252_68, mh_o h, gm_33, gm_35, h33, h35, eq_true e0, WPo_some, List.getElem?_cons_succ, List.getElem?_cons_zero, kil_n, kil_i, kil_a, kil_u, kil_l, Option.toList_some, Option.toList_none, List.cons_append, List.nil_append, List.set_cons_succ, List.set_cons_zero, addm1, Nat.reduceAdd, List.length_cons, List.length_nil, Nat.reduceLT, nI_clamp, nI_toInt, nI_leL, nI_Lle, nI_ltL, nI_Llt, nI_eqL, nI_Leq, nI_leE, nI_ltE, nI_eqE, nI_eqM, nI_add, nI_addL, nI_Ladd, nI_mulL, nI_Lmul, pk_mul, pk_sub, nI_subL, nI_Lsub, i2l_nI, Int.toNat_natCast, Nat.not_lt_zero, Nat.zero_le, ifT, ifF, not_true_eq_false, not_false_eq_true, if_true, if_false, or_self, and_self, true_and, and_true, or_true, true_or, false_or, or_false, false_and, and_false]
      exact K
    · rw [if_pos ⟨hf, y⟩] at K
      have e0 : ¬ srt (nxT T n s.1) = 0 := by rw [srt_0 t5]; exact y
      -- a card that fails ends the loop
      have fin : ∀ (w : Nat → Value) (bi : Nat → Nat → Int32) (bl : Nat → Nat → Int64) (r : aPs), okP n r → ¬ r.2.1 = 0 → cdM w T n r → WP E (c + 6) 252 78 [some (.ref m), l1, l2, l3] [] (mh E ah m ma w bi bl) Q → WP E (c + 6) 252 57 [some (.ref m), l1, l2, l3] [] (mh E ah m ma w bi bl) Q := by
        intro w bi bl r ho hr hw k
        have ho2 := ho.2.1
        have g : w 33 = .int (nI r.2.1) := hw.2.1
        rw [r252_57]
        simp (disch := first | assumption | omega | decide | (simp only [List.length_cons, List.length_nil, Nat.reduceAdd, Nat.reduceLT]; done) | fail) only [r252_58, r252_61, mh_o h, gm_33, g, hr, WPo_some, List.getElem?_cons_succ, List.getElem?_cons_zero, kil_n, kil_i, kil_a, kil_u, kil_l, Option.toList_some, Option.toList_none, List.cons_append, List.nil_append, List.set_cons_succ, List.set_cons_zero, addm1, Nat.reduceAdd, List.length_cons, List.length_nil, Nat.reduceLT, nI_clamp, nI_toInt, nI_leL, nI_Lle, nI_ltL, nI_Llt, nI_eqL, nI_Leq, nI_leE, nI_ltE, nI_eqE, nI_eqM, nI_add, nI_addL, nI_Ladd, nI_mulL, nI_Lmul, pk_mul, pk_sub, nI_subL, nI_Lsub, i2l_nI, Int.toNat_natCast, Nat.not_lt_zero, Nat.zero_le, ifT, ifF, not_true_eq_false, not_false_eq_true, if_true, if_false, or_self, and_self, true_and, and_true, or_true, true_or, false_or, or_false, false_and, and_false]
        exact k
      by_cases hk : kdN T n s.1 = 8
      · rw [if_pos hk] at K
        obtain ⟨v1, k1, c1, f1⟩ := m_readCard_k (E := E) (c := c + 3) (v := v) (ai := ai) (al := al) h hc1 hk
        have K := K v1 ai al (ok_flt hs.1 (by decide) (by decide)) c1 (by rw [f1 42 (by omega), h42]) hc hD ⟨fun k q _ => f1 k q, fun _ _ => rfl, fun _ _ => rfl, fun z => z⟩
        have x := fin v1 ai al _ (ok_flt hs.1 (by decide) (by decide)) (flt_ne (by decide) (by decide)) c1 K
        rw [r252_57]
        simp (disch := first | assumption | omega | decide | (simp only [List.length_cons, List.length_nil, Nat.reduceAdd, Nat.reduceLT]; done) | fail) only [r252_58, r252_61, r252_64, r252_65, r252_68, r252_71, r252_75, mh_o h, gm_33, gm_35, h33, h35, e0, q252_72 k1 h.ci, WPo_some, List.getElem?_cons_succ, List.getElem?_cons_zero, kil_n, kil_i, kil_a, kil_u, kil_l, Option.toList_some, Option.toList_none, List.cons_append, List.nil_append, List.set_cons_succ, List.set_cons_zero, addm1, Nat.reduceAdd, List.length_cons, List.length_nil, Nat.reduceLT, nI_clamp, nI_toInt, nI_leL, nI_Lle, nI_ltL, nI_Llt, nI_eqL, nI_Leq, nI_leE, nI_ltE, nI_eqE, nI_eqM, nI_add, nI_addL, nI_Ladd, nI_mulL, nI_Lmul, pk_mul, pk_sub, nI_subL, nI_Lsub, i2l_nI, Int.toNat_natCast, Nat.not_lt_zero, Nat.zero_le, ifT, ifF, not_true_eq_false, not_false_eq_true, if_true, if_false, or_self, and_self, true_and, and_true, or_true, true_or, false_or, or_false, false_and, and_false]
        exact x
      · rw [if_neg hk] at K
        by_cases h40 : cn = 40
        · rw [if_pos h40] at K
          obtain ⟨v1, k1, c1, f1⟩ := m_readCard_f (E := E) (c := c + 3) (v := v) (ai := ai) (al := al) h hc1 hk (by rw [h42, h40])
          have K := K v1 ai al (ok_flt hs.1 (by decide) (by decide)) c1 (by rw [f1 42 (by omega), h42]) hc hD ⟨fun k q _ => f1 k q, fun _ _ => rfl, fun _ _ => rfl, fun z => z⟩
          have x := fin v1 ai al _ (ok_flt hs.1 (by decide) (by decide)) (flt_ne (by decide) (by decide)) c1 K
          rw [r252_57]
          simp (disch := first | assumption | omega | decide | (simp only [List.length_cons, List.length_nil, Nat.reduceAdd, Nat.reduceLT]; done) | fail) only [r252_58, r252_61, r252_64, r252_65, r252_68, r252_71, r252_75, mh_o h, gm_33, gm_35, h33, h35, e0, q252_72 k1 h.ci, WPo_some, List.getElem?_cons_succ, List.getElem?_cons_zero, kil_n, kil_i, kil_a, kil_u, kil_l, Option.toList_some, Option.toList_none, List.cons_append, List.nil_append, List.set_cons_succ, List.set_cons_zero, addm1, Nat.reduceAdd, List.length_cons, List.length_nil, Nat.reduceLT, nI_clamp, nI_toInt, nI_leL, nI_Lle, nI_ltL, nI_Llt, nI_eqL, nI_Leq, nI_leE, nI_ltE, nI_eqE, nI_eqM, nI_add, nI_addL, nI_Ladd, nI_mulL, nI_Lmul, pk_mul, pk_sub, nI_subL, nI_Lsub, i2l_nI, Int.toNat_natCast, Nat.not_lt_zero, Nat.zero_le, ifT, ifF, not_true_eq_false, not_false_eq_true, if_true, if_false, or_self, and_self, true_and, and_true, or_true, true_or, false_or, or_false, false_and, and_false]
          exact x
        · rw [if_neg h40] at K
          obtain ⟨v1, ai1, al1, k1, c1, d1, f1, mA, mI, mB⟩ := m_readCard (E := E) (c := c) (v := v) (ai := ai) (al := al) h hT hn hs.1 hc1 hk (show cn < 40 by omega) h42
          have okC := ok_rdC (T := T) hs.1
          have F : frCd v v1 ai ai1 al al1 := ⟨f1, fun k hk => funext fun q => mA.1 k q (Or.inl hk), fun k hk => funext fun q => mA.2 k q (Or.inl hk), mB⟩
          by_cases hf2 : (rdC T n s.1).1.2.1 = 0
          · rw [if_pos hf2] at K d1
            have ih := l_mL h hn (l1 := l1) (l2 := l2) (l3 := l3) (Q := Q) z (cn + 1) (fnu D cn (rdC T n s.1).2) (rdC T n s.1).1 v1 ai1 al1 (by omega) (by omega) okC hf2 c1 d1 (by rw [F.2.1 28 (by omega), hT]) (fun i hi => by
              by_cases w : i = cn
              · subst w
                rw [show fnu D i (rdC T n s.1).2 i = (rdC T n s.1).2 from if_pos rfl]
                exact ⟨mI hf2, rdC_ok hk⟩
              · rw [show fnu D cn (rdC T n s.1).2 i = D i from if_neg w]
                obtain ⟨a, b⟩ := hD i (by omega)
                exact ⟨mkI_st a mA w, b⟩) (fun v' ai' al' q1 q2 q3 q4 q5 q6 => K v' ai' al' q1 q2 q3 q4 q5 ⟨fun k p1 p2 => by rw [q6.1 k p1 p2, f1 k p1 p2], fun k p1 => by rw [q6.2.1 k p1, F.2.1 k p1], fun k p1 => by rw [q6.2.2.1 k p1, F.2.2.1 k p1], fun z => q6.2.2.2 (mB z)⟩)
            rw [r252_57]
            simp (disch := first | assumption | omega | decide | (simp only [List.length_cons, List.length_nil, Nat.reduceAdd, Nat.reduceLT]; done) | fail) only [r252_58, r252_61, r252_64, r252_65, r252_68, r252_71, r252_75, mh_o h, gm_33, gm_35, h33, h35, e0, q252_72 k1 h.ci, WPo_some, List.getElem?_cons_succ, List.getElem?_cons_zero, kil_n, kil_i, kil_a, kil_u, kil_l, Option.toList_some, Option.toList_none, List.cons_append, List.nil_append, List.set_cons_succ, List.set_cons_zero, addm1, Nat.reduceAdd, List.length_cons, List.length_nil, Nat.reduceLT, nI_clamp, nI_toInt, nI_leL, nI_Lle, nI_ltL, nI_Llt, nI_eqL, nI_Leq, nI_leE, nI_ltE, nI_eqE, nI_eqM, nI_add, nI_addL, nI_Ladd, nI_mulL, nI_Lmul, pk_mul, pk_sub, nI_subL, nI_Lsub, i2l_nI, Int.toNat_natCast, Nat.not_lt_zero, Nat.zero_le, ifT, ifF, not_true_eq_false, not_false_eq_true, if_true, if_false, or_self, and_self, true_and, and_true, or_true, true_or, false_or, or_false, false_and, and_false]
            exact ih
          · rw [if_neg hf2] at K d1
            have K := K v1 ai1 al1 okC c1 d1 hc (fun i hi => ⟨mkI_st (hD i hi).1 mA (by omega), (hD i hi).2⟩) F
            have x := fin v1 ai1 al1 _ okC hf2 c1 K
            rw [r252_57]
            simp (disch := first | assumption | omega | decide | (simp only [List.length_cons, List.length_nil, Nat.reduceAdd, Nat.reduceLT]; done) | fail) only [r252_58, r252_61, r252_64, r252_65, r252_68, r252_71, r252_75, mh_o h, gm_33, gm_35, h33, h35, e0, q252_72 k1 h.ci, WPo_some, List.getElem?_cons_succ, List.getElem?_cons_zero, kil_n, kil_i, kil_a, kil_u, kil_l, Option.toList_some, Option.toList_none, List.cons_append, List.nil_append, List.set_cons_succ, List.set_cons_zero, addm1, Nat.reduceAdd, List.length_cons, List.length_nil, Nat.reduceLT, nI_clamp, nI_toInt, nI_leL, nI_Lle, nI_ltL, nI_Llt, nI_eqL, nI_Leq, nI_leE, nI_ltE, nI_eqE, nI_eqM, nI_add, nI_addL, nI_Ladd, nI_mulL, nI_Lmul, pk_mul, pk_sub, nI_subL, nI_Lsub, i2l_nI, Int.toNat_natCast, Nat.not_lt_zero, Nat.zero_le, ifT, ifF, not_true_eq_false, not_false_eq_true, if_true, if_false, or_self, and_self, true_and, and_true, or_true, true_or, false_or, or_false, false_and, and_false]
            exact x
theorem l_mK (h : MO E ah m ma) {cn : Nat} (hc : cn ≤ 40) {D : Nat → aCd} (hD : ∀ i, i < cn → mkI ai al i (D i) ∧ cdOK (D i)) {p : Nat} (hcd : cdM v T n (gon p)) (h42 : v 42 = .int (nI cn)) {l1 : Int32} {Q : Option Value → aHp → Prop} : ∀ z i l3, i + z = cn → (∀ v' l2 l3, cdM v' T n (ckS p (ckL D cn z i)) → frR v v' → WP E (c + 1) 252 170 [some (.ref m), some (.int l1), l2, l3] [] (mh E ah m ma v' ai al) Q) → WP E (c + 1) 252 80 [some (.ref m), some (.int l1), some (.int (nI i)), l3] [] (mh E ah m ma v ai al) Q
  | 0, i, l3, hz, K => by
    have h33 : v 33 = .int 0 := hcd.2.1
    have K := K v (some (.int (nI i))) l3 hcd frR_rf
    rw [show i = cn by omega] at K ⊢
    rw [r252_80]
    simp (disch := first | assumption | omega | decide | (simp only [List.length_cons, List.length_nil, Nat.reduceAdd, Nat.reduceLT]; done) | fail) only [r252_81, r252_84, r252_87, r252_88, r252_89, r252_92, mh_o h, gm_33, gm_42, h33, h42, WPo_some, List.getElem?_cons_succ, List.getElem?_cons_zero, kil_n, kil_i, kil_a, kil_u, kil_l, Option.toList_some, Option.toList_none, List.cons_append, List.nil_append, List.set_cons_succ, List.set_cons_zero, addm1, Nat.reduceAdd, List.length_cons, List.length_nil, Nat.reduceLT, nI_clamp, nI_toInt, nI_leL, nI_Lle, nI_ltL, nI_Llt, nI_eqL, nI_Leq, nI_leE, nI_ltE, nI_eqE, nI_eqM, nI_add, nI_addL, nI_Ladd, nI_mulL, nI_Lmul, pk_mul, pk_sub, nI_subL, nI_Lsub, i2l_nI, Int.toNat_natCast, Nat.not_lt_zero, Nat.zero_le, ifT, ifF, not_true_eq_false, not_false_eq_true, if_true, if_false, or_self, and_self, true_and, and_true, or_true, true_or, false_or, or_false, false_and, and_false]
    exact K
  | z + 1, i, l3, hz, K => by
    have h33 : v 33 = .int 0 := hcd.2.1
    obtain ⟨⟨a1, a2, a3, a4, a5, a6, a7, a8⟩, o1, o2, o3, -⟩ := hD i (by omega)
    have o30 := o3 0
    -- a bad lead
    have bad : ckL D cn (z + 1) i = some (D i).2.2.2.1 → ai 55 i = nI (D i).2.2.2.1 → ∀ x, WP E (c + 1) 252 153 [some (.ref m), some (.int l1), some (.int (nI i)), some (.int x)] [] (mh E ah m ma v ai al) Q := by
      intro e55 e x
      have k := m_fail (E := E) (c := c) (ai := ai) (al := al) h h33 (x := 5) (y := nI (D i).2.2.2.1)
      have K := K (vu (vu v 33 (.int 5)) 34 (.int (nI (D i).2.2.2.1))) (some (.int (nI (i + 1)))) (some (.int x)) (by rw [e55]; exact cdM_fl2 (k := 5) (by decide) hcd) fr_flt
      have g3 : vu (vu v 33 (.int 5)) 34 (.int (nI (D i).2.2.2.1)) 33 = .int 5 := by rw [vu_ne (by decide), vu_at]
      simp (disch := first | assumption | omega | decide | (simp only [List.length_cons, List.length_nil, Nat.reduceAdd, Nat.reduceLT]; done) | fail) only [r252_153, r252_154, r252_155, r252_156, r252_159, r252_160, r252_164, r252_167, mh_o h, gm_55, gI, hm_55 h, e, q252_161 k h.ci, WPo_some, List.getElem?_cons_succ, List.getElem?_cons_zero, kil_n, kil_i, kil_a, kil_u, kil_l, Option.toList_some, Option.toList_none, List.cons_append, List.nil_append, List.set_cons_succ, List.set_cons_zero, addm1, Nat.reduceAdd, List.length_cons, List.length_nil, Nat.reduceLT, nI_clamp, nI_toInt, nI_leL, nI_Lle, nI_ltL, nI_Llt, nI_eqL, nI_Leq, nI_leE, nI_ltE, nI_eqE, nI_eqM, nI_add, nI_addL, nI_Ladd, nI_mulL, nI_Lmul, pk_mul, pk_sub, nI_subL, nI_Lsub, i2l_nI, Int.toNat_natCast, Nat.not_lt_zero, Nat.zero_le, ifT, ifF, not_true_eq_false, not_false_eq_true, if_true, if_false, or_self, and_self, true_and, and_true, or_true, true_or, false_or, or_false, false_and, and_false]
      rw [r252_80]
      simp (disch := first | assumption | omega | decide | (simp only [List.length_cons, List.length_nil, Nat.reduceAdd, Nat.reduceLT]; done) | fail) only [r252_81, r252_84, mh_o h, gm_33, g3, WPo_some, List.getElem?_cons_succ, List.getElem?_cons_zero, kil_n, kil_i, kil_a, kil_u, kil_l, Option.toList_some, Option.toList_none, List.cons_append, List.nil_append, List.set_cons_succ, List.set_cons_zero, addm1, Nat.reduceAdd, List.length_cons, List.length_nil, Nat.reduceLT, nI_clamp, nI_toInt, nI_leL, nI_Lle, nI_ltL, nI_Llt, nI_eqL, nI_Leq, nI_leE, nI_ltE, nI_eqE, nI_eqM, nI_add, nI_addL, nI_Ladd, nI_mulL, nI_Lmul, pk_mul, pk_sub, nI_subL, nI_Lsub, i2l_nI, Int.toNat_natCast, Nat.not_lt_zero, Nat.zero_le, ifT, ifF, not_true_eq_false, not_false_eq_true, if_true, if_false, or_self, and_self, true_and, and_true, or_true, true_or, false_or, or_false, false_and, and_false, show ¬ (5 : Int32) = 0 by decide]
      exact K
    have ih := fun l3 => l_mK h hc hD hcd h42 (l1 := l1) (Q := Q) z (i + 1) l3 (by omega)
    by_cases y6 : (D i).1 = 6
    · rw [y6, show nI 6 = (6 : Int32) from rfl] at a1
      have n0 := (a7 (Or.inl y6)).1
      by_cases w : i < (D i).2.2.1 0
      · have neg : nI i - nI ((D i).2.2.1 0) < 0 := by
          simp only [i32_lt]
          rw [Int32.toInt_sub, nI_toInt (by omega), nI_toInt (by omega), Int.bmod_eq_of_le (by omega) (by omega)]
          show _ < (0 : Int)
          omega
        have eL : ckL D cn (z + 1) i = some (D i).2.2.2.1 := by
          unfold ckL
          rw [show ldX (D i) i cn = true by unfold ldX; simp [y6, w], if_pos rfl]
        have b := bad eL (a7 (Or.inl y6)).2
        rw [r252_80]
        simp (disch := first | assumption | omega | decide | (simp only [List.length_cons, List.length_nil, Nat.reduceAdd, Nat.reduceLT]; done) | fail) only [r252_81, r252_84, r252_87, r252_88, r252_89, r252_92, r252_95, r252_96, r252_99, r252_100, r252_101, r252_103, r252_106, r252_107, r252_108, r252_111, r252_112, r252_113, r252_114, r252_140, r252_141, r252_142, r252_145, r252_146, r252_147, r252_150, mh_o h, gm_33, gm_42, gm_49, gm_50, gI, hm_49 h, hm_50 h, h33, h42, a1, n0, neg, WPo_some, List.getElem?_cons_succ, List.getElem?_cons_zero, kil_n, kil_i, kil_a, kil_u, kil_l, Option.toList_some, Option.toList_none, List.cons_append, List.nil_append, List.set_cons_succ, List.set_cons_zero, addm1, Nat.reduceAdd, List.length_cons, List.length_nil, Nat.reduceLT, nI_clamp, nI_toInt, nI_leL, nI_Lle, nI_ltL, nI_Llt, nI_eqL, nI_Leq, nI_leE, nI_ltE, nI_eqE, nI_eqM, nI_add, nI_addL, nI_Ladd, nI_mulL, nI_Lmul, pk_mul, pk_sub, nI_subL, nI_Lsub, i2l_nI, Int.toNat_natCast, Nat.not_lt_zero, Nat.zero_le, ifT, ifF, not_true_eq_false, not_false_eq_true, if_true, if_false, or_self, and_self, true_and, and_true, or_true, true_or, false_or, or_false, false_and, and_false]
        exact b _
      · have e1 : nI i - nI ((D i).2.2.1 0) = nI (i - (D i).2.2.1 0) := pk_sub (by omega)
        have eL : ckL D cn (z + 1) i = ckL D cn z (i + 1) := by
          show (if ldX (D i) i cn = true then _ else _) = _
          rw [show ldX (D i) i cn = false by unfold ldX; simp [y6, w], if_neg (by decide)]
        rw [eL] at K
        have ih := ih (some (.int (nI (i - (D i).2.2.1 0)))) K
        rw [r252_80]
        simp (disch := first | assumption | omega | decide | (simp only [List.length_cons, List.length_nil, Nat.reduceAdd, Nat.reduceLT]; done) | fail) only [r252_81, r252_84, r252_87, r252_88, r252_89, r252_92, r252_95, r252_96, r252_99, r252_100, r252_101, r252_103, r252_106, r252_107, r252_108, r252_111, r252_112, r252_113, r252_114, r252_140, r252_141, r252_142, r252_145, r252_146, r252_147, r252_150, r252_164, r252_167, mh_o h, gm_33, gm_42, gm_49, gm_50, gI, hm_49 h, hm_50 h, h33, h42, a1, n0, e1, WPo_some, List.getElem?_cons_succ, List.getElem?_cons_zero, kil_n, kil_i, kil_a, kil_u, kil_l, Option.toList_some, Option.toList_none, List.cons_append, List.nil_append, List.set_cons_succ, List.set_cons_zero, addm1, Nat.reduceAdd, List.length_cons, List.length_nil, Nat.reduceLT, nI_clamp, nI_toInt, nI_leL, nI_Lle, nI_ltL, nI_Llt, nI_eqL, nI_Leq, nI_leE, nI_ltE, nI_eqE, nI_eqM, nI_add, nI_addL, nI_Ladd, nI_mulL, nI_Lmul, pk_mul, pk_sub, nI_subL, nI_Lsub, i2l_nI, Int.toNat_natCast, Nat.not_lt_zero, Nat.zero_le, ifT, ifF, not_true_eq_false, not_false_eq_true, if_true, if_false, or_self, and_self, true_and, and_true, or_true, true_or, false_or, or_false, false_and, and_false]
        exact ih
    · have e6 : ¬ ai 49 i = 6 := by rw [a1, show (6 : Int32) = nI 6 from rfl, nI_eqE (by omega) (by decide)]; exact y6
      by_cases y7 : (D i).1 = 7
      · have e7 : ai 49 i = 7 := by rw [a1, y7]; rfl
        have n0 := (a7 (Or.inr y7)).1
        by_cases w : cn < i + (D i).2.2.1 0
        · have eL : ckL D cn (z + 1) i = some (D i).2.2.2.1 := by
            unfold ckL
            rw [show ldX (D i) i cn = true by unfold ldX; simp [y7, w], if_pos rfl]
          have b := bad eL (a7 (Or.inr y7)).2
          rw [r252_80]
          simp (disch := first | assumption | omega | decide | (simp only [List.length_cons, List.length_nil, Nat.reduceAdd, Nat.reduceLT]; done) | fail) only [r252_81, r252_84, r252_87, r252_88, r252_89, r252_92, r252_95, r252_96, r252_99, r252_100, r252_101, r252_103, r252_117, r252_118, r252_121, r252_122, r252_123, r252_125, r252_128, r252_129, r252_130, r252_133, r252_134, r252_135, r252_136, r252_139, r252_140, r252_141, r252_142, r252_145, r252_146, r252_147, r252_150, mh_o h, gm_33, gm_42, gm_49, gm_50, gI, hm_49 h, hm_50 h, h33, h42, e7, n0, WPo_some, List.getElem?_cons_succ, List.getElem?_cons_zero, kil_n, kil_i, kil_a, kil_u, kil_l, Option.toList_some, Option.toList_none, List.cons_append, List.nil_append, List.set_cons_succ, List.set_cons_zero, addm1, Nat.reduceAdd, List.length_cons, List.length_nil, Nat.reduceLT, nI_clamp, nI_toInt, nI_leL, nI_Lle, nI_ltL, nI_Llt, nI_eqL, nI_Leq, nI_leE, nI_ltE, nI_eqE, nI_eqM, nI_add, nI_addL, nI_Ladd, nI_mulL, nI_Lmul, pk_mul, pk_sub, nI_subL, nI_Lsub, i2l_nI, Int.toNat_natCast, Nat.not_lt_zero, Nat.zero_le, ifT, ifF, not_true_eq_false, not_false_eq_true, if_true, if_false, or_self, and_self, true_and, and_true, or_true, true_or, false_or, or_false, false_and, and_false, show ¬ (7 : Int32) = 6 by decide]
          exact b _
        · have eL : ckL D cn (z + 1) i = ckL D cn z (i + 1) := by
            show (if ldX (D i) i cn = true then _ else _) = _
            rw [show ldX (D i) i cn = false by unfold ldX; simp [y7, w], if_neg (by decide)]
          rw [eL] at K
          have ih := ih (some (.int (nI (i + (D i).2.2.1 0)))) K
          rw [r252_80]
          simp (disch := first | assumption | omega | decide | (simp only [List.length_cons, List.length_nil, Nat.reduceAdd, Nat.reduceLT]; done) | fail) only [r252_81, r252_84, r252_87, r252_88, r252_89, r252_92, r252_95, r252_96, r252_99, r252_100, r252_101, r252_103, r252_117, r252_118, r252_121, r252_122, r252_123, r252_125, r252_128, r252_129, r252_130, r252_133, r252_134, r252_135, r252_136, r252_139, r252_140, r252_141, r252_142, r252_145, r252_146, r252_147, r252_150, r252_164, r252_167, mh_o h, gm_33, gm_42, gm_49, gm_50, gI, hm_49 h, hm_50 h, h33, h42, e7, n0, WPo_some, List.getElem?_cons_succ, List.getElem?_cons_zero, kil_n, kil_i, kil_a, kil_u, kil_l, Option.toList_some, Option.toList_none, List.cons_append, List.nil_append, List.set_cons_succ, List.set_cons_zero, addm1, Nat.reduceAdd, List.length_cons, List.length_nil, Nat.reduceLT, nI_clamp, nI_toInt, nI_leL, nI_Lle, nI_ltL, nI_Llt, nI_eqL, nI_Leq, nI_leE, nI_ltE, nI_eqE, nI_eqM, nI_add, nI_addL, nI_Ladd, nI_mulL, nI_Lmul, pk_mul, pk_sub, nI_subL, nI_Lsub, i2l_nI, Int.toNat_natCast, Nat.not_lt_zero, Nat.zero_le, ifT, ifF, not_true_eq_false, not_false_eq_true, if_true, if_false, or_self, and_self, true_and, and_true, or_true, true_or, false_or, or_false, false_and, and_false, show ¬ (7 : Int32) = 6 by decide]
          exact ih
      · have e7 : ¬ ai 49 i = 7 := by rw [a1, show (7 : Int32) = nI 7 from rfl, nI_eqE (by omega) (by decide)]; exact y7
        have eL : ckL D cn (z + 1) i = ckL D cn z (i + 1) := by
          show (if ldX (D i) i cn = true then _ else _) = _
          rw [show ldX (D i) i cn = false by unfold ldX; simp [y6, y7], if_neg (by decide)]
        rw [eL] at K
        have ih := ih (some (.int (nI i))) K
        rw [r252_80]
        simp (disch := first | assumption | omega | decide | (simp only [List.length_cons, List.length_nil, Nat.reduceAdd, Nat.reduceLT]; done) | fail) only [r252_81, r252_84, r252_87, r252_88, r252_89, r252_92, r252_95, r252_96, r252_99, r252_100, r252_101, r252_103, r252_117, r252_118, r252_121, r252_122, r252_123, r252_125, r252_128, r252_129, r252_130, r252_133, r252_134, r252_135, r252_136, r252_139, r252_140, r252_141, r252_142, r252_145, r252_146, r252_147, r252_150, r252_164, r252_167, mh_o h, gm_33, gm_42, gm_49, gI, hm_49 h, h33, h42, e6, e7, WPo_some, List.getElem?_cons_succ, List.getElem?_cons_zero, kil_n, kil_i, kil_a, kil_u, kil_l, Option.toList_some, Option.toList_none, List.cons_append, List.nil_append, List.set_cons_succ, List.set_cons_zero, addm1, Nat.reduceAdd, List.length_cons, List.length_nil, Nat.reduceLT, nI_clamp, nI_toInt, nI_leL, nI_Lle, nI_ltL, nI_Llt, nI_eqL, nI_Leq, nI_leE, nI_ltE, nI_eqE, nI_eqM, nI_add, nI_addL, nI_Ladd, nI_mulL, nI_Lmul, pk_mul, pk_sub, nI_subL, nI_Lsub, i2l_nI, Int.toNat_natCast, Nat.not_lt_zero, Nat.zero_le, ifT, ifF, not_true_eq_false, not_false_eq_true, if_true, if_false, or_self, and_self, true_and, and_true, or_true, true_or, false_or, or_false, false_and, and_false]
        exact ih
end MRA

/-! The class' cards: the public call -/
section CAX
variable {E : aEnv} {c : Nat} {ah : aHp} {A : Nat → Nat} {S : Nat → aE} {T : Nat → Int32} {tx sp : Nat} {hT eC st : Int32} {tl : Nat}
theorem x_cards_no (hO : XO E ah A) (hX : S 0 = xO A tx sp hT eC (nI tl) st) (htl : tl ≤ 500) {x : Int32} (hx : ¬ (0 ≤ x.toInt ∧ x.toInt ≤ tl)) : EV E c 163 [.ref (A 0), .int x] (oh E ah A S) (some (.int (-1))) (oh E ah A (su S 0 (xO A tx sp hT eC (nI tl) 5))) := by
  refine e163 ?_
  have hX' := hX
  unfold xO at hX' ⊢
  by_cases h : x < 0
  · simp (disch := first | assumption | omega | decide | (simp only [List.length_cons, List.length_nil, Nat.reduceAdd, Nat.reduceLT]; done) | fail) only [r163_0, r163_1, r163_4, r163_5, r163_6, r163_9, r163_12, r163_13, r163_14, r163_17, r163_18, hx_0 hO, sx_0 hO, hX', pf_10150, h, oGF_is, WPo_some, List.getElem?_cons_succ, List.getElem?_cons_zero, kil_n, kil_i, kil_a, kil_u, kil_l, Option.toList_some, Option.toList_none, List.cons_append, List.nil_append, List.set_cons_succ, List.set_cons_zero, addm1, Nat.reduceAdd, List.length_cons, List.length_nil, Nat.reduceLT, not_true_eq_false, not_false_eq_true, if_true, if_false, or_self, and_self, true_and, and_true, or_true, true_or, false_or, or_false, false_and, and_false]
  · have h2 : ¬ x ≤ nI tl := by
      simp only [i32_lt, i32_le, i64_lt, i64_le, i2l_toInt, Int32.reduceToInt, Int64.reduceToInt] at h ⊢
      rw [nI_toInt (by omega)]
      omega
    simp (disch := first | assumption | omega | decide | (simp only [List.length_cons, List.length_nil, Nat.reduceAdd, Nat.reduceLT]; done) | fail) only [r163_0, r163_1, r163_4, r163_5, r163_6, r163_9, r163_12, r163_13, r163_14, r163_17, r163_18, hx_0 hO, sx_0 hO, hX', pf_10150, h, h2, oGF_is, WPo_some, List.getElem?_cons_succ, List.getElem?_cons_zero, kil_n, kil_i, kil_a, kil_u, kil_l, Option.toList_some, Option.toList_none, List.cons_append, List.nil_append, List.set_cons_succ, List.set_cons_zero, addm1, Nat.reduceAdd, List.length_cons, List.length_nil, Nat.reduceLT, not_true_eq_false, not_false_eq_true, if_true, if_false, or_self, and_self, true_and, and_true, or_true, true_or, false_or, or_false, false_and, and_false]
theorem dk_self {b cn : Nat} {kd wn nm ls : Nat → Int32} {wl : Nat → Int64} (h : dkH A S b kd wn nm ls wl cn) : dk A S b kd wn nm ls wl cn = S := (dk_ext (fun _ _ => rfl) h.1 h.2.1 h.2.2.1 h.2.2.2.1 h.2.2.2.2.1 h.2.2.2.2.2).symm
theorem x_cards (hO : XO E ah A) (hE : StE E) (hX : S 0 = xO A tx sp hT eC (nI tl) st) (htl : tl ≤ 500) (h13 : S 13 = .inl (2, 500, .inl T)) {fk fa : Int32} (h14 : rdX A S fk fa) (hb : 61 ≤ sp ∧ sp ≤ 67) {kd wn nm ls : Nat → Int32} {wl : Nat → Int64} {cn : Nat} (hH : dkH A S sp kd wn nm ls wl cn) {n : Nat} (hn : n ≤ tl) : ∃ S' kd' wn' nm' ls' wl' cn', EV E (c + 12) 163 [.ref (A 0), .int (nI n)] (oh E ah A S) (some (.int (if (caS T n).2.1 = 0 then nI (caA T n).1 else -1))) (oh E ah A S') ∧ S' 0 = (if (caS T n).2.1 = 0 then xO A sp tx 1 eC 0 0 else xO A tx sp hT eC 0 10) ∧ S' 14 = rP A T n (caS T n) ∧ dkH A S' sp kd' wn' nm' ls' wl' cn' ∧ cn' ≤ 40 ∧ okP n (caS T n) ∧ ((caS T n).2.1 = 0 → cn' = (caA T n).1 ∧ ∀ i, i < cn' → dkI kd' wn' nm' ls' wl' i ((caA T n).2.1 i) ∧ cdOK ((caA T n).2.1 i)) ∧ ∀ q, q ≠ 0 → q ≠ 14 → ¬ (sp ≤ q ∧ q ≤ sp + 5) → S' q = S q := by
  obtain ⟨y1, y2, y3, y4, y5, y6, h14⟩ := h14
  obtain ⟨kd', wn', nm', ls', wl', cn', k, k2, k3, k4⟩ := c_readAll (E := E) (c := c) (S := S) (kd := kd) (wn := wn) (nm := nm) (ls := ls) (wl := wl) (cn := cn) hO hE h13 (show n ≤ 500 by omega) hb (y1 := y1) (y2 := y2) (y3 := y3) (y4 := y4) (y5 := y5) (y6 := y6) (y7 := fk) (y8 := fa)
  rw [dk_self hH, ← h14, su_self] at k
  have ci : oCI (hg E (oh E ah A S) (A 14)) = 0 := by rw [hx_14 hO, h14]; rfl
  have h0 : ∀ X, su (dk A S sp kd' wn' nm' ls' wl' cn') 14 X 0 = xO A tx sp hT eC (nI tl) st := fun X => by rw [su_ne (by decide), dk_ne (by omega), hX]
  refine ⟨su (su (dk A S sp kd' wn' nm' ls' wl' cn') 14 (rP A T n (caS T n))) 0 (if (caS T n).2.1 = 0 then xO A sp tx 1 eC 0 0 else xO A tx sp hT eC 0 10), kd', wn', nm', ls', wl', cn', e163 ?_, su_at, by rw [su_ne (by decide), su_at], ?_, k3, k2, k4, fun q q0 q1 q2 => by rw [su_ne q0, su_ne q1, dk_ne q2]⟩
  · have hX' := hX
    have h1 : ¬ nI n < 0 := nI_pos (by omega)
    have h2 : nI n ≤ nI tl := by rw [nI_leE (by omega) (by omega)]; exact hn
    have g0 : ∀ X e, hg E (oh E ah A (su (su (dk A S sp kd' wn' nm' ls' wl' cn') 14 X) 0 e)) (A sp) = some (.inr (1, [.ref (A (sp + 1)), .ref (A (sp + 2)), .ref (A (sp + 3)), .ref (A (sp + 4)), .ref (A (sp + 5)), .int (nI cn')])) := fun X e => by rw [hxn hO (by omega), su_ne (by omega), su_ne (by omega), dk_0]
    unfold xO at hX' h0 ⊢
    by_cases y : (caS T n).2.1 = 0
    · rw [if_pos y, if_pos y]
      have k := k
      rw [show b2i ((caS T n).2.1 = 0) = 1 from if_pos y] at k
      rw [← (k4 y).1]
      simp (disch := first | assumption | omega | decide | (simp only [List.length_cons, List.length_nil, Nat.reduceAdd, Nat.reduceLT]; done) | fail) only [r163_0, r163_1, r163_4, r163_5, r163_6, r163_9, r163_12, r163_13, r163_14, r163_17, r163_18, r163_19, r163_20, r163_23, r163_24, r163_27, r163_28, r163_29, r163_35, r163_36, r163_37, r163_38, r163_41, r163_42, r163_45, r163_46, r163_48, r163_51, r163_52, r163_53, r163_54, r163_57, r163_57n, r163_58, r163_59, r163_60, r163_63, r163_66, r163_67, r163_67n, r163_68, r163_71, r163_72, r163_73, r163_76, r163_77, r163_78, r163_81, r163_82, r163_85, r163_88, hx_0 hO, sx_0 hO, hX', h0, h1, h2, su_at, su_su, g0, pf_10150, pf_10140, pf_10102, pf_10112, pf_10123, q163_32 k ci, oGF_is, WPo_some, List.getElem?_cons_succ, List.getElem?_cons_zero, kil_n, kil_i, kil_a, kil_u, kil_l, Option.toList_some, Option.toList_none, List.cons_append, List.nil_append, List.set_cons_succ, List.set_cons_zero, addm1, Nat.reduceAdd, List.length_cons, List.length_nil, Nat.reduceLT, not_true_eq_false, not_false_eq_true, if_true, if_false, or_self, and_self, true_and, and_true, or_true, true_or, false_or, or_false, false_and, and_false, show ¬ (1 : Int32) = 0 by decide]
    · rw [if_neg y, if_neg y]
      have k := k
      rw [show b2i ((caS T n).2.1 = 0) = 0 from if_neg y] at k
      simp (disch := first | assumption | omega | decide | (simp only [List.length_cons, List.length_nil, Nat.reduceAdd, Nat.reduceLT]; done) | fail) only [r163_0, r163_1, r163_4, r163_5, r163_6, r163_9, r163_12, r163_13, r163_14, r163_17, r163_18, r163_19, r163_20, r163_23, r163_24, r163_27, r163_28, r163_29, r163_35, r163_36, r163_37, r163_38, r163_41, r163_42, r163_45, r163_46, r163_48, r163_51, r163_52, r163_53, r163_54, r163_57, r163_57n, r163_58, r163_59, r163_60, r163_63, r163_66, r163_67, r163_67n, r163_68, r163_71, r163_72, r163_73, r163_76, r163_77, r163_78, r163_81, r163_82, r163_85, r163_88, hx_0 hO, sx_0 hO, hX', h0, h1, h2, su_at, su_su, pf_10150, pf_10140, q163_32 k ci, oGF_is, WPo_some, List.getElem?_cons_succ, List.getElem?_cons_zero, kil_n, kil_i, kil_a, kil_u, kil_l, Option.toList_some, Option.toList_none, List.cons_append, List.nil_append, List.set_cons_succ, List.set_cons_zero, addm1, Nat.reduceAdd, List.length_cons, List.length_nil, Nat.reduceLT, not_true_eq_false, not_false_eq_true, if_true, if_false, or_self, and_self, true_and, and_true, or_true, true_or, false_or, or_false, false_and, and_false]
  · have := dkH_su (A := A) (S := S) (kd := kd') (wn := wn') (nm := nm') (ls := ls') (wl := wl') (cn := cn') (X := rP A T n (caS T n)) hb
    obtain ⟨a1, a2, a3, a4, a5, a6⟩ := this
    exact ⟨by rw [su_ne (by omega)]; exact a1, by rw [su_ne (by omega)]; exact a2, by rw [su_ne (by omega)]; exact a3, by rw [su_ne (by omega)]; exact a4, by rw [su_ne (by omega)]; exact a5, by rw [su_ne (by omega)]; exact a6⟩
end CAX

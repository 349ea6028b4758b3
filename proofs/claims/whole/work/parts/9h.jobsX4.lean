/-! Jobs of the class: partOf -/
section JQ
variable {E : aEnv} {c : Nat} {ah : aHp} {A : Nat → Nat} {S : Nat → aE} {tx sp : Nat} {hT tL st : Int32} {en : Nat} {ax wh : Nat → Nat} {rx : Nat → Nat → Nat} {fg : Nat → Nat → Nat → Nat} {tu ms : Nat → Nat} {mq : Nat → Nat → Nat → Nat} {jn : Nat} {ja jw jt : Nat → Nat}
noncomputable def poJ (en : Nat) (ax wh : Nat → Nat) (jn : Nat) (ja jw jt : Nat → Nat) (x : Int32) : Int32 := if ¬ (0 ≤ x.toInt ∧ x.toInt < jn) then 2 else paSt en ax wh jn ja jw jt
theorem x_partOf (hN : XN E ah A en) (hX : S 0 = xO A tx sp hT (nI en) tL st) (h : enS A S en ax wh rx fg tu ms mq) (hJ : jbX A S en ax wh jn ja jw jt) {x : Int32} : ∃ S', EV E (c + 10) 181 [.ref (A 0), .int x] (oh E ah A S) (some (.int (if poJ en ax wh jn ja jw jt x = 0 then nI ((jRes en ax wh jn ja jw jt (fun _ => 0)).2 x.toInt.toNat) else -1))) (oh E ah A S') ∧ S' 0 = xO A tx sp hT (nI en) tL (poJ en ax wh jn ja jw jt x) ∧ jbX A S' en ax wh jn ja jw jt ∧ ∀ q, ¬ q = 0 → ¬ (54 ≤ q ∧ q < 61) → S' q = S q := by
  have hO := hN.O
  obtain ⟨l, b, ji, hcell, hj, hb⟩ := hJ
  have h7 := hj.1
  have hid := jS_id hcell
  obtain ⟨cc, ji', p1, p2, p3⟩ := c_partAmong (c := c) (S := S) hN h hj hb
  have cj := j_ci (S := S) (l := l) (b := b) (ji := ji) (n := nI jn) hO
  rw [hid] at p3 cj
  have le := jRes_le (en := en) (ax := ax) (wh := wh) (jn := jn) (ja := ja) (jw := jw) (jt := jt) (cc := fun _ => 0)
  rw [jRes_1 (cc := cc)] at p3
  have hX' := hX
  obtain ⟨T, hTT⟩ : ∃ T, T = jS A S (nI jn) (nI (jRes en ax wh jn ja jw jt (fun _ => 0)).1) 1 ji' := ⟨_, rfl⟩
  have T0 : T 0 = xO A tx sp hT (nI en) tL st := by rw [hTT, jS_o (by omega)]; exact hX
  have Tc : ∀ q, q < 7 → T (54 + q) = jC A (nI jn) (nI (jRes en ax wh jn ja jw jt (fun _ => 0)).1) 1 ji' q := fun q hq => by
    rw [hTT]
    unfold jS
    rw [if_pos (by omega), show 54 + q - 54 = q by omega]
  have Ti : jS A T (nI jn) (nI (jRes en ax wh jn ja jw jt (fun _ => 0)).1) 1 ji' = T := jS_id Tc
  have Ti2 : ∀ e, jS A (su T 0 e) (nI jn) (nI (jRes en ax wh jn ja jw jt (fun _ => 0)).1) 1 ji' = su T 0 e := fun e => jS_id (fun q hq => by rw [su_ne (by omega)]; exact Tc q hq)
  have cjT' := j_ci (S := T) (l := nI (jRes en ax wh jn ja jw jt (fun _ => 0)).1) (b := 1) (ji := ji') (n := nI jn) hO
  have kh := fun c => c_jHas (c := c) (S := T) (l := nI (jRes en ax wh jn ja jw jt (fun _ => 0)).1) (b := 1) (ji := ji') hO h7 (x := x)
  have gT := gj_0 (S := T) (l := nI (jRes en ax wh jn ja jw jt (fun _ => 0)).1) (b := 1) (ji := ji') (n := nI jn) hO
  rw [Ti] at cjT' kh gT
  have cjT := fun e => j_ci (S := su T 0 e) (l := nI (jRes en ax wh jn ja jw jt (fun _ => 0)).1) (b := 1) (ji := ji') (n := nI jn) hO
  have kh2 := fun c e => c_jHas (c := c) (S := su T 0 e) (l := nI (jRes en ax wh jn ja jw jt (fun _ => 0)).1) (b := 1) (ji := ji') hO h7 (x := x)
  have g0 := fun e => gj_0 (S := su T 0 e) (l := nI (jRes en ax wh jn ja jw jt (fun _ => 0)).1) (b := 1) (ji := ji') (n := nI jn) hO
  have g5 := fun e => gj_5 (S := su T 0 e) (l := nI (jRes en ax wh jn ja jw jt (fun _ => 0)).1) (b := 1) (ji := ji') (n := nI jn) hO
  simp only [Ti2] at cjT kh2 g0 g5
  rw [← hTT] at p3
  refine ⟨su T 0 (xO A tx sp hT (nI en) tL (poJ en ax wh jn ja jw jt x)), e181 ?_, su_at, ⟨_, 1, ji', fun q hq => by rw [su_ne (by omega)]; exact Tc q hq, p1, Or.inr ⟨rfl, cc, by rw [jRes_1 (cc := cc)], p2⟩⟩, fun q h1 h2 => by rw [su_ne h1, hTT, jS_o (by omega)]⟩
  have hsame : ¬ (jRes en ax wh jn ja jw jt (fun _ => 0)).1 = 1000000 → (jRes en ax wh jn ja jw jt cc).2 = (jRes en ax wh jn ja jw jt (fun _ => 0)).2 := fun z => jRes_2 z
  unfold poJ paSt
  generalize hr : (jRes en ax wh jn ja jw jt (fun _ => 0)).1 = res at *
  have kc : ∀ c, EV E c 93 [.ref (A 54)] (oh E ah A T) (some (.int (b2i (¬ res = 1000000)))) (oh E ah A T) := fun c => by
    refine e93 ?_
    by_cases z : res = 1000000
    · simp (disch := first | assumption | omega | decide | (simp only [List.length_cons, List.length_nil, Nat.reduceAdd, Nat.reduceLT]; done) | fail) only [r93_0, r93_1, r93_4, r93_6, r93_9, r93_10, r93_13, r93_14 (x := 0) (Or.inl rfl), r93_14 (x := 1) (Or.inr rfl), r93_14 (b2i_or _), gT, oGF_is, WPo_some, List.getElem?_cons_succ, List.getElem?_cons_zero, kil_n, kil_i, kil_a, kil_u, kil_l, Option.toList_some, Option.toList_none, List.cons_append, List.nil_append, List.set_cons_succ, List.set_cons_zero, addm1, Nat.reduceAdd, List.length_cons, List.length_nil, Nat.reduceLT, nI_clamp, nI_toInt, nI_leL, nI_Lle, nI_ltL, nI_Llt, nI_eqL, nI_Leq, nI_leE, nI_ltE, nI_eqE, nI_eqM, nI_add, nI_addL, nI_Ladd, nI_mulL, nI_Lmul, pk_mul, pk_sub, nI_subL, nI_Lsub, i2l_nI, Int.toNat_natCast, Nat.not_lt_zero, Nat.zero_le, ifT, ifF, not_true_eq_false, not_false_eq_true, if_true, if_false, or_self, and_self, true_and, and_true, or_true, true_or, false_or, or_false, false_and, and_false, z, b2i]
    · simp (disch := first | assumption | omega | decide | (simp only [List.length_cons, List.length_nil, Nat.reduceAdd, Nat.reduceLT]; done) | fail) only [r93_0, r93_1, r93_4, r93_6, r93_9, r93_10, r93_13, r93_14 (x := 0) (Or.inl rfl), r93_14 (x := 1) (Or.inr rfl), r93_14 (b2i_or _), gT, oGF_is, WPo_some, List.getElem?_cons_succ, List.getElem?_cons_zero, kil_n, kil_i, kil_a, kil_u, kil_l, Option.toList_some, Option.toList_none, List.cons_append, List.nil_append, List.set_cons_succ, List.set_cons_zero, addm1, Nat.reduceAdd, List.length_cons, List.length_nil, Nat.reduceLT, nI_clamp, nI_toInt, nI_leL, nI_Lle, nI_ltL, nI_Llt, nI_eqL, nI_Leq, nI_leE, nI_ltE, nI_eqE, nI_eqM, nI_add, nI_addL, nI_Ladd, nI_mulL, nI_Lmul, pk_mul, pk_sub, nI_subL, nI_Lsub, i2l_nI, Int.toNat_natCast, Nat.not_lt_zero, Nat.zero_le, ifT, ifF, not_true_eq_false, not_false_eq_true, if_true, if_false, or_self, and_self, true_and, and_true, or_true, true_or, false_or, or_false, false_and, and_false, z, b2i]
  by_cases h1 : 0 ≤ x.toInt ∧ x.toInt < jn
  · by_cases z : res = 1000000
    · unfold xO at hX' T0 ⊢
      simp (disch := first | assumption | omega | decide | (simp only [List.length_cons, List.length_nil, Nat.reduceAdd, Nat.reduceLT]; done) | fail) only [r181_0, r181_1, r181_4, r181_5, r181_8, r181_9, r181_15, r181_16, r181_19, r181_23, r181_26, r181_27, r181_28, r181_31, r181_34, r181_35, r181_36, r181_42, r181_45, r181_46, r181_49, r181_51, r181_54, r181_55, r181_58, r181_61, r181_62, r181_65, r181_69, r181_72, r181_73, q181_12 p3 cj, q181_20 (kh _) cjT', q181_39 (kc _) cjT', hx_0 hO, hX', T0, pf_10150, sx_0 hO, su_at, b2i_eq0, h1, z, oGF_is, WPo_some, List.getElem?_cons_succ, List.getElem?_cons_zero, kil_n, kil_i, kil_a, kil_u, kil_l, Option.toList_some, Option.toList_none, List.cons_append, List.nil_append, List.set_cons_succ, List.set_cons_zero, addm1, Nat.reduceAdd, List.length_cons, List.length_nil, Nat.reduceLT, not_true_eq_false, not_false_eq_true, if_true, if_false, or_self, and_self, true_and, and_true, or_true, true_or, false_or, or_false, false_and, and_false, show ¬ (9 : Int32) = 0 by decide]
    · obtain ⟨q, hq, rfl⟩ := i32_nat (n := jn) h1.1 h1.2
      have eq := nI_toInt (show q < 2 ^ 31 by omega)
      have h1' := h1
      rw [eq] at h1'
      have ke : ∀ c e, EV E (c + 1) 95 [.ref (A 54), .int (nI q)] (oh E ah A (su T 0 e)) (some (.int (nI ((jRes en ax wh jn ja jw jt (fun _ => 0)).2 q)))) (oh E ah A (su T 0 e)) := fun c e => by
        refine e95 ?_
        simp (disch := first | assumption | omega | decide | (simp only [List.length_cons, List.length_nil, Nat.reduceAdd, Nat.reduceLT]; done) | fail) only [r95_0, r95_1, r95_5, r95_8, r95_9, r95_12, r95_13, r95_14, r95_17, r95_18, q95_2 (kh2 _ _) (cjT _), g0, g5, gI, p2 q hq, hsame z, h1, h1', eq, b2i_eq0, oGF_is, WPo_some, List.getElem?_cons_succ, List.getElem?_cons_zero, kil_n, kil_i, kil_a, kil_u, kil_l, Option.toList_some, Option.toList_none, List.cons_append, List.nil_append, List.set_cons_succ, List.set_cons_zero, addm1, Nat.reduceAdd, List.length_cons, List.length_nil, Nat.reduceLT, nI_clamp, nI_toInt, nI_leL, nI_Lle, nI_ltL, nI_Llt, nI_eqL, nI_Leq, nI_leE, nI_ltE, nI_eqE, nI_eqM, nI_add, nI_addL, nI_Ladd, nI_mulL, nI_Lmul, pk_mul, pk_sub, nI_subL, nI_Lsub, i2l_nI, Int.toNat_natCast, Nat.not_lt_zero, Nat.zero_le, ifT, ifF, not_true_eq_false, not_false_eq_true, if_true, if_false, or_self, and_self, true_and, and_true, or_true, true_or, false_or, or_false, false_and, and_false]
      unfold xO at hX' T0 ⊢
      simp (disch := first | assumption | omega | decide | (simp only [List.length_cons, List.length_nil, Nat.reduceAdd, Nat.reduceLT]; done) | fail) only [r181_0, r181_1, r181_4, r181_5, r181_8, r181_9, r181_15, r181_16, r181_19, r181_23, r181_26, r181_27, r181_28, r181_31, r181_34, r181_35, r181_36, r181_42, r181_45, r181_46, r181_49, r181_51, r181_54, r181_55, r181_58, r181_61, r181_62, r181_65, r181_69, r181_72, r181_73, q181_12 p3 cj, q181_20 (kh _) cjT', q181_39 (kc _) cjT', q181_66 (ke _ _) (cjT _), hx_0 hO, hX', T0, pf_10150, sx_0 hO, su_at, b2i_eq0, h1, h1', eq, Int.toNat_natCast, z, oGF_is, WPo_some, List.getElem?_cons_succ, List.getElem?_cons_zero, kil_n, kil_i, kil_a, kil_u, kil_l, Option.toList_some, Option.toList_none, List.cons_append, List.nil_append, List.set_cons_succ, List.set_cons_zero, addm1, Nat.reduceAdd, List.length_cons, List.length_nil, Nat.reduceLT, not_true_eq_false, not_false_eq_true, if_true, if_false, or_self, and_self, true_and, and_true, or_true, true_or, false_or, or_false, false_and, and_false]
  · unfold xO at hX' T0 ⊢
    simp (disch := first | assumption | omega | decide | (simp only [List.length_cons, List.length_nil, Nat.reduceAdd, Nat.reduceLT]; done) | fail) only [r181_0, r181_1, r181_4, r181_5, r181_8, r181_9, r181_15, r181_16, r181_19, r181_23, r181_26, r181_27, r181_28, r181_31, r181_34, r181_35, r181_36, r181_42, r181_45, r181_46, r181_49, r181_51, r181_54, r181_55, r181_58, r181_61, r181_62, r181_65, r181_69, r181_72, r181_73, q181_12 p3 cj, q181_20 (kh _) cjT', hx_0 hO, hX', T0, pf_10150, sx_0 hO, su_at, b2i_eq0, h1, oGF_is, WPo_some, List.getElem?_cons_succ, List.getElem?_cons_zero, kil_n, kil_i, kil_a, kil_u, kil_l, Option.toList_some, Option.toList_none, List.cons_append, List.nil_append, List.set_cons_succ, List.set_cons_zero, addm1, Nat.reduceAdd, List.length_cons, List.length_nil, Nat.reduceLT, not_true_eq_false, not_false_eq_true, if_true, if_false, or_self, and_self, true_and, and_true, or_true, true_or, false_or, or_false, false_and, and_false, show ¬ (2 : Int32) = 0 by decide]
end JQ

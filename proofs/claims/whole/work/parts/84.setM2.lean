/-! Engines of the model: set -/
theorem iL_i {z : Int} (h0 : 0 ≤ z) : (iL z).toInt32 = nI z.toNat := by
  obtain ⟨k, rfl⟩ := Int.eq_ofNat_of_zero_le h0
  rw [← lN_iL, lN_i, Int.toNat_natCast]
theorem div_ab {V : Int} {p : Nat} (hp : 1 ≤ p) (hV : -2305843009213693952 ≤ V ∧ V ≤ 2305843009213693952) : -2305843009213693952 ≤ V / (p : Int) ∧ V / (p : Int) ≤ 2305843009213693952 := by
  have p0 : (0 : Int) < (p : Int) := by omega
  constructor
  · apply (Int.le_ediv_iff_mul_le p0).mpr
    have : (2305843009213693952 : Int) * 1 ≤ 2305843009213693952 * (p : Int) := Int.mul_le_mul_of_nonneg_left (by omega) (by decide)
    omega
  · have h1 : V / (p : Int) ≤ 2305843009213693952 / (p : Int) := Int.ediv_le_ediv p0 hV.2
    have h2 : (2305843009213693952 : Int) / (p : Int) ≤ 2305843009213693952 := Int.ediv_le_self _ (by decide)
    omega
theorem iL_step {q : Int} {r : Nat} (hr : 1 ≤ r) (hr2 : r ≤ 12) (hq : -2305843009213693952 ≤ q ∧ q ≤ 2305843009213693952) : iL (q - q % (r : Int)) / lN r = iL (q / (r : Int)) := by
  have e0 : (lN r).toInt = (r : Int) := lN_toInt63 (by omega)
  have h0 := Int.emod_nonneg q (show (r : Int) ≠ 0 by omega)
  have h1 := Int.emod_lt_of_pos q (show (0 : Int) < (r : Int) by omega)
  have h2 : q - q % (r : Int) = (r : Int) * (q / (r : Int)) := by
    have := Int.mul_ediv_add_emod q (r : Int)
    omega
  have h3 := div_ab hr hq
  apply Int64.toInt_inj.mp
  rw [i64_div (by rw [e0]; omega), e0, iL_toInt (by omega) (by omega), h2, Int.mul_tdiv_cancel_left _ (by omega), iL_toInt (by omega) (by omega)]
section SEM
variable {E : aEnv} {c m : Nat} {ah : aHp} {ma : Nat → Nat} {v : Nat → Value} {ai : Nat → Nat → Int32} {al : Nat → Nat → Int64} {en : Nat} {ax wh : Nat → Nat} {rx : Nat → Nat → Nat} {fg : Nat → Nat → Nat → Nat} {tu ms : Nat → Nat} {mq : Nat → Nat → Nat → Nat} {sr : Nat → Int32} {mn : Nat → Nat} {tn : Nat → Nat → Int64}
theorem l_smW (h : MO E ah m ma) {e axx whh x : Nat} {r : Nat → Nat} (hq : EQ ai e axx whh r) (hx : x < axx) {V : Int} (hV : -2305843009213693952 ≤ V ∧ V ≤ 2305843009213693952) {F : Nat → Int32} {l2 l3 : Option Value} {Q : Option Value → aHp → Prop} (K : ∀ l5 l8 l9, WP E (c + 1) 218 271 [some (.ref m), some (.int (nI e)), l2, l3, some (.int (nI x)), l5, none, some (.int (nI whh)), l8, l9] [] (mh E ah m ma v (iu ai 10 (ovr F (12 * (7 * e + x)) whh (fun w => nI (dgt V r w)))) al) Q) :
    ∀ z w l8 l9, w + z = whh → WP E (c + 1) 218 202 [some (.ref m), some (.int (nI e)), l2, l3, some (.int (nI x)), some (.long (iL (V / (wt r w : Int)))), none, some (.int (nI w)), l8, l9] [] (mh E ah m ma v (iu ai 10 (ovr F (12 * (7 * e + x)) w (fun w => nI (dgt V r w)))) al) Q
  | 0, w, l8, l9, hz => by
    obtain ⟨q1, q2, q3, q4, q5⟩ := hq
    rw [show w = whh by omega, r218_202]
    simp (disch := first | assumption | omega | decide | (simp only [List.length_cons, List.length_nil, Nat.reduceAdd, Nat.reduceLT]; done) | fail) only [r218_204, r218_205, r218_208, r218_209, r218_210, mh_o h, gm_7, WPo_some, List.getElem?_cons_succ, List.getElem?_cons_zero, kil_n, kil_i, kil_a, kil_u, kil_l, Option.toList_some, Option.toList_none, List.cons_append, List.nil_append, List.set_cons_succ, List.set_cons_zero, addm1, Nat.reduceAdd, List.length_cons, List.length_nil, Nat.reduceLT, gI, hm_7 h, iu_ne, q4, nI_clamp, nI_toInt, nI_leL, nI_Lle, nI_ltL, nI_Llt, nI_eqL, nI_Leq, nI_leE, nI_ltE, nI_eqE, nI_eqM, nI_add, nI_addL, nI_Ladd, nI_mulL, nI_Lmul, pk_mul, pk_sub, nI_subL, nI_Lsub, i2l_nI, Int.toNat_natCast, Nat.not_lt_zero, Nat.zero_le, ifT, ifF, not_true_eq_false, not_false_eq_true, if_true, if_false, or_self, and_self, true_and, and_true, or_true, true_or, false_or, or_false, false_and, and_false]
    exact K _ _ _
  | z + 1, w, l8, l9, hz => by
    have ih := fun l8 l9 => l_smW h hq hx hV K z (w + 1) l8 l9 (by omega)
    obtain ⟨q1, q2, q3, q4, q5⟩ := hq
    obtain ⟨r1, r2, r3⟩ := q5 w (by omega)
    have p1 := wt_63 q2.2.2.2 (fun w hw => (q5 w hw).2) (show w ≤ whh by omega)
    have hd := div_ab p1.1 hV
    have e0 : (lN (r w)).toInt = (r w : Int) := lN_toInt63 (by omega)
    have eq0 : (iL (V / (wt r w : Int))).toInt = V / (wt r w : Int) := iL_toInt (by omega) (by omega)
    have fm := fun ah => c_floorMod (E := E) (c := c) (ah := ah) (x := iL (V / (wt r w : Int))) (y := lN (r w)) (by rw [e0]; omega)
    rw [e0, eq0] at fm
    have h0 := Int.emod_nonneg (V / (wt r w : Int)) (show (r w : Int) ≠ 0 by omega)
    have d1 : (iL (V / (wt r w : Int) % (r w : Int))).toInt32 = nI (dgt V r w) := iL_i h0
    have d2 := dgt_lt (V := V) (r := r) (w := w) (by omega)
    have d3 : iL (V / (wt r w : Int)) - lN (dgt V r w) = iL (V / (wt r w : Int) - V / (wt r w : Int) % (r w : Int)) := by
      rw [lN_iL, iL_sub]
      unfold dgt
      rw [Int.toNat_of_nonneg h0]
    have d4 := iL_step (q := V / (wt r w : Int)) (r := r w) (by omega) r3 hd
    have d5 : V / (wt r w : Int) / (r w : Int) = V / (wt r (w + 1) : Int) := by
      rw [wt, Int.natCast_mul, Int.ediv_ediv_of_nonneg (by omega)]
    rw [d5] at d4
    have y0 : ¬ lN (r w) = 0 := fun z => by
      rw [z] at e0
      have : (0 : Int64).toInt = 0 := rfl
      omega
    have m4 := upd_ovr (F := F) (lo := 12 * (7 * e + x)) (i := w) (h := fun w => nI (dgt V r w)) (x := nI (dgt V r w)) rfl
    rw [r218_202]
    simp (disch := first | assumption | omega | decide | (simp only [List.length_cons, List.length_nil, Nat.reduceAdd, Nat.reduceLT]; done) | fail) only [r218_204, r218_205, r218_208, r218_209, r218_210, r218_213, r218_214, r218_217, r218_219, r218_220, r218_221, r218_223, r218_224, r218_225, r218_227, r218_229, r218_231, r218_235, r218_236, r218_238, r218_239, r218_242, r218_243, r218_245, r218_250, r218_252, r218_253, r218_255, r218_257, r218_258, r218_259, r218_261, r218_263, r218_265, r218_268, r218_262, q218_232 (fm _), q218_247 m_cell, mh_o h, gm_7, gm_9, gm_10, WPo_some, List.getElem?_cons_succ, List.getElem?_cons_zero, kil_n, kil_i, kil_a, kil_u, kil_l, Option.toList_some, Option.toList_none, List.cons_append, List.nil_append, List.set_cons_succ, List.set_cons_zero, addm1, Nat.reduceAdd, List.length_cons, List.length_nil, Nat.reduceLT, gI, pI, hm_7 h, hm_9 h, hm_10 h, sm_10 h, iu_at, iu_ne, iu_iu, q4, r1, nI_l, d1, d3, d4, m4, nI_clamp, nI_toInt, nI_leL, nI_Lle, nI_ltL, nI_Llt, nI_eqL, nI_Leq, nI_leE, nI_ltE, nI_eqE, nI_eqM, nI_add, nI_addL, nI_Ladd, nI_mulL, nI_Lmul, pk_mul, pk_sub, nI_subL, nI_Lsub, i2l_nI, Int.toNat_natCast, Nat.not_lt_zero, Nat.zero_le, ifT, ifF, not_true_eq_false, not_false_eq_true, if_true, if_false, or_self, and_self, true_and, and_true, or_true, true_or, false_or, or_false, false_and, and_false]
    exact ih _ _
end SEM

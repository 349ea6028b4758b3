/-! Jobs of the model: all ways -/
section JM2
variable {E : aEnv} {c m : Nat} {ah : aHp} {ma : Nat → Nat} {v : Nat → Value} {ai : Nat → Nat → Int32} {al : Nat → Nat → Int64} {en : Nat} {ax wh : Nat → Nat} {rx : Nat → Nat → Nat} {fg : Nat → Nat → Nat → Nat} {tu ms : Nat → Nat} {mq : Nat → Nat → Nat → Nat} {jn : Nat} {ja jw jt : Nat → Nat}
theorem pow_le4 (h4 : en ≤ 4) {k : Nat} (hk : k ≤ 7) : en ^ k ≤ 16384 := by
  have h1 : en ^ k ≤ 4 ^ k := Nat.pow_le_pow_left h4 k
  have h2 : (4 : Nat) ^ k ≤ 4 ^ 7 := Nat.pow_le_pow_right (by decide) hk
  have h3 : (4 : Nat) ^ 7 = 16384 := by decide
  omega
theorem l_ways (h : MO E ah m ma) (h4 : en ≤ 4) (hv : v 5 = .int (nI en)) (h7 : jn ≤ 7) (hv2 : v 82 = .int (nI jn)) {Q : Option Value → aHp → Prop} (K : WP E c 285 25 [some (.ref m), some (.int (nI (en ^ jn))), some (.int (nI jn)), none, none, none, none] [] (mh E ah m ma v ai al) Q) : ∀ z j, j + z = jn → WP E c 285 4 [some (.ref m), some (.int (nI (en ^ j))), some (.int (nI j)), none, none, none, none] [] (mh E ah m ma v ai al) Q
  | 0, j, hz => by
    rw [show j = jn by omega, r285_4]
    simp (disch := first | assumption | omega | decide | (simp only [List.length_cons, List.length_nil, Nat.reduceAdd, Nat.reduceLT]; done) | fail) only [r285_5, r285_6, r285_9, mh_o h, gm_82, hv2, WPo_some, List.getElem?_cons_succ, List.getElem?_cons_zero, kil_n, kil_i, kil_a, kil_u, kil_l, Option.toList_some, Option.toList_none, List.cons_append, List.nil_append, List.set_cons_succ, List.set_cons_zero, addm1, Nat.reduceAdd, List.length_cons, List.length_nil, Nat.reduceLT, nI_clamp, nI_toInt, nI_leL, nI_Lle, nI_ltL, nI_Llt, nI_eqL, nI_Leq, nI_leE, nI_ltE, nI_eqE, nI_eqM, nI_add, nI_addL, nI_Ladd, nI_mulL, nI_Lmul, pk_mul, pk_sub, nI_subL, nI_Lsub, i2l_nI, Int.toNat_natCast, Nat.not_lt_zero, Nat.zero_le, ifT, ifF, not_true_eq_false, not_false_eq_true, if_true, if_false, or_self, and_self, true_and, and_true, or_true, true_or, false_or, or_false, false_and, and_false]
    exact K
  | z + 1, j, hz => by
    have ih := l_ways h h4 hv h7 hv2 K z (j + 1) (by omega)
    rw [Nat.pow_succ] at ih
    rw [r285_4]
    simp (disch := first | assumption | omega | decide | (simp only [List.length_cons, List.length_nil, Nat.reduceAdd, Nat.reduceLT]; done) | fail) only [r285_5, r285_6, r285_9, r285_12, r285_13, r285_14, r285_17, r285_18, r285_19, r285_22, mh_o h, gm_82, gm_5, hv, hv2, WPo_some, List.getElem?_cons_succ, List.getElem?_cons_zero, kil_n, kil_i, kil_a, kil_u, kil_l, Option.toList_some, Option.toList_none, List.cons_append, List.nil_append, List.set_cons_succ, List.set_cons_zero, addm1, Nat.reduceAdd, List.length_cons, List.length_nil, Nat.reduceLT, nI_clamp, nI_toInt, nI_leL, nI_Lle, nI_ltL, nI_Llt, nI_eqL, nI_Leq, nI_leE, nI_ltE, nI_eqE, nI_eqM, nI_add, nI_addL, nI_Ladd, nI_mulL, nI_Lmul, pk_mul, pk_sub, nI_subL, nI_Lsub, i2l_nI, Int.toNat_natCast, Nat.not_lt_zero, Nat.zero_le, ifT, ifF, not_true_eq_false, not_false_eq_true, if_true, if_false, or_self, and_self, true_and, and_true, or_true, true_or, false_or, or_false, false_and, and_false]
    exact ih
/-- the figures of a way -/
theorem l_digs (h : MO E ah m ma) (h4 : en ≤ 4) (hv : v 5 = .int (nI en)) (h7 : jn ≤ 7) {w : Nat} (hw : w < en ^ jn) {l1 l2 l6 : Option Value} {n3 : Int32} {Q : Option Value → aHp → Prop} (K : ∀ TR, (∀ k, k < jn → TR k = nI (w / en ^ (jn - 1 - k) % en)) → WP E c 285 79 [some (.ref m), l1, l2, some (.int n3), some (.int (nI (w / en ^ jn))), some (.int (-1)), l6] [] (mh E ah m ma v (iu ai 94 TR) al) Q) : ∀ j z TR, j + z = jn → (∀ k, j ≤ k → k < jn → TR k = nI (w / en ^ (jn - 1 - k) % en)) → WP E c 285 45 [some (.ref m), l1, l2, some (.int n3), some (.int (nI (w / en ^ z))), some (.int (nI j - 1)), l6] [] (mh E ah m ma v (iu ai 94 TR) al) Q
  | 0, z, TR, hz, hT => by
    have K := K TR (fun k hk => hT k (by omega) hk)
    rw [show z = jn by omega, r285_45]
    simp (disch := first | assumption | omega | decide | (simp only [List.length_cons, List.length_nil, Nat.reduceAdd, Nat.reduceLT]; done) | fail) only [r285_47, WPo_some, List.getElem?_cons_succ, List.getElem?_cons_zero, kil_n, kil_i, kil_a, kil_u, kil_l, Option.toList_some, Option.toList_none, List.cons_append, List.nil_append, List.set_cons_succ, List.set_cons_zero, addm1, Nat.reduceAdd, List.length_cons, List.length_nil, Nat.reduceLT, show (nI 0 - 1 : Int32) = -1 by decide, show (-1 : Int32) < 0 by decide, not_true_eq_false, not_false_eq_true, if_true, if_false, or_self, and_self, true_and, and_true, or_true, true_or, false_or, or_false, false_and, and_false]
    exact K
  | j + 1, z, TR, hz, hT => by
    have p1 := pow_le4 h4 h7
    have e1 : 1 ≤ en := by
      apply Classical.byContradiction
      intro y
      rw [show en = 0 by omega, Nat.zero_pow (by omega)] at hw
      omega
    have d1 : w / en ^ z ≤ w := Nat.div_le_self _ _
    have d2 : w / en ^ z / en = w / en ^ (z + 1) := by rw [Nat.div_div_eq_div_mul, Nat.pow_succ]
    have y0 : ¬ nI en = 0 := by rw [nI_eqL (by omega) (by decide)]; omega
    have d3 : w / en ^ z / en * en ≤ w / en ^ z := Nat.div_mul_le_self _ _
    have d4 : w / en ^ z - w / en ^ z / en * en = w / en ^ z % en := by
      have := Nat.div_add_mod (w / en ^ z) en
      rw [Nat.mul_comm] at this
      omega
    have ih := l_digs h h4 hv h7 hw K j (z + 1) (upd TR j (nI (w / en ^ z % en))) (by omega) (fun k h1 h2 => by
      unfold upd
      by_cases y : k = j
      · rw [if_pos y, y, show jn - 1 - j = z by omega]
      · rw [if_neg y]
        exact hT k (by omega) h2)
    rw [← d2] at ih
    rw [r285_45]
    simp (disch := first | assumption | omega | decide | (simp only [List.length_cons, List.length_nil, Nat.reduceAdd, Nat.reduceLT]; done) | fail) only [r285_47, r285_50, r285_51, r285_54, r285_56, r285_58, r285_59, r285_63, r285_64, r285_66, r285_67, r285_71, r285_73, r285_76, r285_62, r285_70, mh_o h, gm_5, gm_94, hv, WPo_some, List.getElem?_cons_succ, List.getElem?_cons_zero, kil_n, kil_i, kil_a, kil_u, kil_l, Option.toList_some, Option.toList_none, List.cons_append, List.nil_append, List.set_cons_succ, List.set_cons_zero, addm1, Nat.reduceAdd, List.length_cons, List.length_nil, Nat.reduceLT, pI, hm_94 h, sm_94 h, iu_at, iu_iu, nI_div, d4, nI_clamp, nI_toInt, nI_leL, nI_Lle, nI_ltL, nI_Llt, nI_eqL, nI_Leq, nI_leE, nI_ltE, nI_eqE, nI_eqM, nI_add, nI_addL, nI_Ladd, nI_mulL, nI_Lmul, pk_mul, pk_sub, nI_subL, nI_Lsub, i2l_nI, Int.toNat_natCast, Nat.not_lt_zero, Nat.zero_le, ifT, ifF, not_true_eq_false, not_false_eq_true, if_true, if_false, or_self, and_self, true_and, and_true, or_true, true_or, false_or, or_false, false_and, and_false, Nat.add_sub_cancel]
    exact ih
theorem mo_le {fit : Nat → Nat → Bool} {t : Nat → Nat} : ∀ z j s L g g', (∀ k, j ≤ k → k < j + z → t k ≤ 1000) → (∀ i, L i ≤ 1000 * j) → g ≤ 1000 * j → mo fit t z j s L g = some g' → g' ≤ 1000 * (j + z)
  | 0, j, s, L, g, g', ht, hL, hg, h => by
    rw [mo] at h
    injection h with h
    omega
  | z + 1, j, s, L, g, g', ht, hL, hg, h => by
    rw [mo] at h
    split at h
    · have t1 := ht j (Nat.le_refl _) (by omega)
      have l1 := hL (s j)
      have := mo_le z (j + 1) s _ _ g' (fun k h1 h2 => ht k (by omega) (by omega)) (fun i => by
        unfold fnu
        split
        · omega
        · have := hL i
          omega) (by omega) h
      omega
    · exact absurd h (by simp)
theorem l_cpP (h : MO E ah m ma) (h7 : jn ≤ 7) (hv2 : v 82 = .int (nI jn)) {l1 l2 l3 l4 : Option Value} {n5 : Int32} {Q : Option Value → aHp → Prop} {P0 : Nat → Int32} (K : ∀ l6, WP E c 285 138 [some (.ref m), l1, l2, l3, l4, some (.int n5), l6] [] (mh E ah m ma v (iu ai 93 (ovr P0 0 jn (ai 94))) al) Q) : ∀ z i, i + z = jn → WP E c 285 109 [some (.ref m), l1, l2, l3, l4, some (.int n5), some (.int (nI i))] [] (mh E ah m ma v (iu ai 93 (ovr P0 0 i (ai 94))) al) Q
  | 0, i, hz => by
    rw [show i = jn by omega, r285_109]
    simp (disch := first | assumption | omega | decide | (simp only [List.length_cons, List.length_nil, Nat.reduceAdd, Nat.reduceLT]; done) | fail) only [r285_111, r285_112, r285_115, mh_o h, gm_82, hv2, WPo_some, List.getElem?_cons_succ, List.getElem?_cons_zero, kil_n, kil_i, kil_a, kil_u, kil_l, Option.toList_some, Option.toList_none, List.cons_append, List.nil_append, List.set_cons_succ, List.set_cons_zero, addm1, Nat.reduceAdd, List.length_cons, List.length_nil, Nat.reduceLT, nI_clamp, nI_toInt, nI_leL, nI_Lle, nI_ltL, nI_Llt, nI_eqL, nI_Leq, nI_leE, nI_ltE, nI_eqE, nI_eqM, nI_add, nI_addL, nI_Ladd, nI_mulL, nI_Lmul, pk_mul, pk_sub, nI_subL, nI_Lsub, i2l_nI, Int.toNat_natCast, Nat.not_lt_zero, Nat.zero_le, ifT, ifF, not_true_eq_false, not_false_eq_true, if_true, if_false, or_self, and_self, true_and, and_true, or_true, true_or, false_or, or_false, false_and, and_false]
    exact K _
  | z + 1, i, hz => by
    have ih := l_cpP h h7 hv2 K z (i + 1) (by omega)
    have m4 := upd_ovr0 (F := P0) (i := i) (h := ai 94) (x := ai 94 i) rfl
    rw [r285_109]
    simp (disch := first | assumption | omega | decide | (simp only [List.length_cons, List.length_nil, Nat.reduceAdd, Nat.reduceLT]; done) | fail) only [r285_111, r285_112, r285_115, r285_118, r285_119, r285_122, r285_124, r285_125, r285_128, r285_130, r285_131, r285_132, r285_135, mh_o h, gm_82, gm_93, gm_94, hv2, WPo_some, List.getElem?_cons_succ, List.getElem?_cons_zero, kil_n, kil_i, kil_a, kil_u, kil_l, Option.toList_some, Option.toList_none, List.cons_append, List.nil_append, List.set_cons_succ, List.set_cons_zero, addm1, Nat.reduceAdd, List.length_cons, List.length_nil, Nat.reduceLT, gI, pI, hm_93 h, hm_94 h, sm_93 h, iu_at, iu_ne, iu_iu, nI_clamp, nI_toInt, nI_leL, nI_Lle, nI_ltL, nI_Llt, nI_eqL, nI_Leq, nI_leE, nI_ltE, nI_eqE, nI_eqM, nI_add, nI_addL, nI_Ladd, nI_mulL, nI_Lmul, pk_mul, pk_sub, nI_subL, nI_Lsub, i2l_nI, Int.toNat_natCast, Nat.not_lt_zero, Nat.zero_le, ifT, ifF, not_true_eq_false, not_false_eq_true, if_true, if_false, or_self, and_self, true_and, and_true, or_true, true_or, false_or, or_false, false_and, and_false, m4]
    exact ih
noncomputable def bsI (p : Nat) : Int32 := if p = 1000000 then -1 else nI p
theorem enM_fr {ai' : Nat → Nat → Int32} (hm : enM v ai en ax wh rx fg tu ms mq) (hk : ∀ k, k < 90 → ai' k = ai k) : enM v ai' en ax wh rx fg tu ms mq := by
  obtain ⟨h1, h2, h3, h4⟩ := hm
  refine ⟨h1, h2, fun e he => ?_, fun e he he4 => ?_⟩
  · obtain ⟨a, b, c, d⟩ := h3 e he
    refine ⟨EQ_fr a (fun k hk' => hk k (by omega)), by rw [hk 10 (by omega)]; exact b, by rw [hk 8 (by omega)]; exact c, EM_fr d (fun k x y => hk k (by omega))⟩
  · rw [hk 8 (by omega), hk 12 (by omega), hk 10 (by omega)]
    exact h4 e he he4
theorem jbM_fr {ai' : Nat → Nat → Int32} (hj : jbM v ai jn ja jw jt) (hk : ∀ k, 90 ≤ k → k ≤ 92 → ai' k = ai k) : jbM v ai' jn ja jw jt := by
  unfold jbM
  rw [hk 90 (by omega) (by omega), hk 91 (by omega) (by omega), hk 92 (by omega) (by omega)]
  exact hj
theorem l_pv (h : MO E ah m ma) (hm : enM v ai en ax wh rx fg tu ms mq) (hj : jbM v ai jn ja jw jt) : ∀ z w (cur : Nat × (Nat → Nat)) ai' l4 l5 l6, w + z = en ^ jn → cur.1 ≤ 1000000 → (∀ k, ¬ (93 ≤ k ∧ k ≤ 95) → ai' k = ai k) → (∀ q, q < jn → ai' 93 q = nI (cur.2 q)) → WP E (c + 2) 285 29 [some (.ref m), some (.int (nI (en ^ jn))), some (.int (bsI cur.1)), some (.int (nI w)), l4, l5, l6] [] (mh E ah m ma v ai' al) (fun r1 x1 => ∃ ai'', (∀ k, ¬ (93 ≤ k ∧ k ≤ 95) → ai'' k = ai k) ∧ (∀ q, q < jn → ai'' 93 q = nI ((fo (fun cur v => stJ (mo (fitJ ax wh ja jw) jt jn 0 (dgj en jn 0 (fun _ => 0) v) (fun _ => 0) 0) (dgj en jn 0 (fun _ => 0) v) cur) z w cur).2 q)) ∧ r1 = some (.int (bsI (fo (fun cur v => stJ (mo (fitJ ax wh ja jw) jt jn 0 (dgj en jn 0 (fun _ => 0) v) (fun _ => 0) 0) (dgj en jn 0 (fun _ => 0) v) cur) z w cur).1)) ∧ x1 = mh E ah m ma v ai'' al)
  | 0, w, cur, ai', l4, l5, l6, hz, hc, hf, hp => by
    have p1 := pow_le4 hm.1 hj.1
    rw [show w = en ^ jn by omega, r285_29]
    simp (disch := first | assumption | omega | decide | (simp only [List.length_cons, List.length_nil, Nat.reduceAdd, Nat.reduceLT]; done) | fail) only [r285_30, r285_31, r285_144, r285_145, WPo_some, List.getElem?_cons_succ, List.getElem?_cons_zero, kil_n, kil_i, kil_a, kil_u, kil_l, Option.toList_some, Option.toList_none, List.cons_append, List.nil_append, List.set_cons_succ, List.set_cons_zero, addm1, Nat.reduceAdd, List.length_cons, List.length_nil, Nat.reduceLT, nI_clamp, nI_toInt, nI_leL, nI_Lle, nI_ltL, nI_Llt, nI_eqL, nI_Leq, nI_leE, nI_ltE, nI_eqE, nI_eqM, nI_add, nI_addL, nI_Ladd, nI_mulL, nI_Lmul, pk_mul, pk_sub, nI_subL, nI_Lsub, i2l_nI, Int.toNat_natCast, Nat.not_lt_zero, Nat.zero_le, ifT, ifF, not_true_eq_false, not_false_eq_true, if_true, if_false, or_self, and_self, true_and, and_true, or_true, true_or, false_or, or_false, false_and, and_false, Nat.le_refl]
    exact ⟨ai', hf, hp, rfl, rfl⟩
  | z + 1, w, cur, ai', l4, l5, l6, hz, hc, hf, hp => by
    have h4 := hm.1
    have h7 := hj.1
    have p1 := pow_le4 h4 h7
    have hw : w < en ^ jn := by omega
    have e1 : ∀ k, k < jn → 1 ≤ en := fun k hk => Classical.byContradiction fun y2 => by
      rw [show en = 0 by omega, Nat.zero_pow (by omega)] at hz
      omega
    have ds : ∀ k, k < jn → dgj en jn 0 (fun _ => 0) w k = w / en ^ (jn - 1 - k) % en := fun k hk => by
      unfold dgj
      rw [if_pos (by omega), Nat.zero_add]
    rw [fo]
    have ld := l_digs (c := c + 2) (v := v) (ai := ai') (al := al) h h4 hm.2.1 h7 hw (l1 := some (.int (nI (en ^ jn)))) (l2 := some (.int (bsI cur.1))) (l6 := l6) (n3 := nI w) (Q := fun r1 x1 => ∃ ai'', (∀ k, ¬ (93 ≤ k ∧ k ≤ 95) → ai'' k = ai k) ∧ (∀ q, q < jn → ai'' 93 q = nI ((fo (fun cur v => stJ (mo (fitJ ax wh ja jw) jt jn 0 (dgj en jn 0 (fun _ => 0) v) (fun _ => 0) 0) (dgj en jn 0 (fun _ => 0) v) cur) z (w + 1) (stJ (mo (fitJ ax wh ja jw) jt jn 0 (dgj en jn 0 (fun _ => 0) w) (fun _ => 0) 0) (dgj en jn 0 (fun _ => 0) w) cur)).2 q)) ∧ r1 = some (.int (bsI (fo (fun cur v => stJ (mo (fitJ ax wh ja jw) jt jn 0 (dgj en jn 0 (fun _ => 0) v) (fun _ => 0) 0) (dgj en jn 0 (fun _ => 0) v) cur) z (w + 1) (stJ (mo (fitJ ax wh ja jw) jt jn 0 (dgj en jn 0 (fun _ => 0) w) (fun _ => 0) 0) (dgj en jn 0 (fun _ => 0) w) cur)).1)) ∧ x1 = mh E ah m ma v ai'' al) (fun TR hTR => by
      have hm2 : enM v (iu ai' 94 TR) en ax wh rx fg tu ms mq := enM_fr hm (fun k hk => by rw [iu_ne (by omega)]; exact hf k (by omega))
      have hj2 : jbM v (iu ai' 94 TR) jn ja jw jt := jbM_fr hj (fun k x y => by rw [iu_ne (by omega)]; exact hf k (by omega))
      obtain ⟨LD, k1⟩ := m_mostOf (c := c) (al := al) h hm2 hj2 (s := dgj en jn 0 (fun _ => 0) w) (fun k hk => by
        rw [iu_at, hTR k hk, ds k hk]
        exact ⟨rfl, Nat.mod_lt _ (e1 k hk)⟩)
      have nxt : ∀ (cur' : Nat × (Nat → Nat)) ai2 l4 l5 l6, cur' = stJ (mo (fitJ ax wh ja jw) jt jn 0 (dgj en jn 0 (fun _ => 0) w) (fun _ => 0) 0) (dgj en jn 0 (fun _ => 0) w) cur → cur'.1 ≤ 1000000 → (∀ k, ¬ (93 ≤ k ∧ k ≤ 95) → ai2 k = ai k) → (∀ q, q < jn → ai2 93 q = nI (cur'.2 q)) → WP E (c + 2) 285 138 [some (.ref m), some (.int (nI (en ^ jn))), some (.int (bsI cur'.1)), some (.int (nI w)), l4, l5, l6] [] (mh E ah m ma v ai2 al) _ := fun cur' ai2 l4 l5 l6 e2 e3 e4 e5 => by
        have ih := l_pv h hm hj z (w + 1) cur' ai2 l4 l5 l6 (by omega) e3 e4 e5
        rw [e2] at ih ⊢
        simp (disch := first | assumption | omega | decide | (simp only [List.length_cons, List.length_nil, Nat.reduceAdd, Nat.reduceLT]; done) | fail) only [r285_138, r285_141, WPo_some, List.getElem?_cons_succ, List.getElem?_cons_zero, kil_n, kil_i, kil_a, kil_u, kil_l, Option.toList_some, Option.toList_none, List.cons_append, List.nil_append, List.set_cons_succ, List.set_cons_zero, addm1, Nat.reduceAdd, List.length_cons, List.length_nil, Nat.reduceLT, nI_clamp, nI_toInt, nI_leL, nI_Lle, nI_ltL, nI_Llt, nI_eqL, nI_Leq, nI_leE, nI_ltE, nI_eqE, nI_eqM, nI_add, nI_addL, nI_Ladd, nI_mulL, nI_Lmul, pk_mul, pk_sub, nI_subL, nI_Lsub, i2l_nI, Int.toNat_natCast, Nat.not_lt_zero, Nat.zero_le, ifT, ifF, not_true_eq_false, not_false_eq_true, if_true, if_false, or_self, and_self, true_and, and_true, or_true, true_or, false_or, or_false, false_and, and_false]
        exact ih
      have fr2 : ∀ k, ¬ (93 ≤ k ∧ k ≤ 95) → iu (iu ai' 94 TR) 95 LD k = ai k := fun k hk => by rw [iu_ne (by omega), iu_ne (by omega)]; exact hf k hk
      cases hmo : mo (fitJ ax wh ja jw) jt jn 0 (dgj en jn 0 (fun _ => 0) w) (fun _ => 0) 0 with
      | none =>
        rw [hmo] at k1 nxt
        have n1 := nxt cur (iu (iu ai' 94 TR) 95 LD) (some (.int (nI (w / en ^ jn)))) (some (.int (-1))) l6 rfl hc fr2 (fun q hq => by rw [iu_ne (by decide), iu_ne (by decide)]; exact hp q hq)
        have k1 : EV E (c + 1) 286 [.ref m] (mh E ah m ma v (iu ai' 94 TR) al) (some (.int (-1))) (mh E ah m ma v (iu (iu ai' 94 TR) 95 LD) al) := k1
        simp (disch := first | assumption | omega | decide | (simp only [List.length_cons, List.length_nil, Nat.reduceAdd, Nat.reduceLT]; done) | fail) only [r285_79, q285_80 k1 h.ci, r285_83, r285_85, r285_87, WPo_some, List.getElem?_cons_succ, List.getElem?_cons_zero, kil_n, kil_i, kil_a, kil_u, kil_l, Option.toList_some, Option.toList_none, List.cons_append, List.nil_append, List.set_cons_succ, List.set_cons_zero, addm1, Nat.reduceAdd, List.length_cons, List.length_nil, Nat.reduceLT, not_true_eq_false, not_false_eq_true, if_true, if_false, or_self, and_self, true_and, and_true, or_true, true_or, false_or, or_false, false_and, and_false, show (-1 : Int32) < 0 by decide]
        exact n1
      | some g =>
        rw [hmo] at k1 nxt
        have k1 : EV E (c + 1) 286 [.ref m] (mh E ah m ma v (iu ai' 94 TR) al) (some (.int (nI g))) (mh E ah m ma v (iu (iu ai' 94 TR) 95 LD) al) := k1
        have gb := mo_le jn 0 _ _ _ g (fun k x y => (hj.2.2 k (by omega)).2.2.2) (fun i => Nat.zero_le _) (Nat.zero_le _) hmo
        by_cases y : g < cur.1
        · have st : stJ (some g) (dgj en jn 0 (fun _ => 0) w) cur = (g, dgj en jn 0 (fun _ => 0) w) := if_pos y
          have cp := fun l4 => l_cpP (c := c + 2) (v := v) (ai := iu (iu ai' 94 TR) 95 LD) (al := al) h h7 hj.2.1 (l1 := some (.int (nI (en ^ jn)))) (l2 := some (.int (nI g))) (l3 := some (.int (nI w))) (l4 := l4) (n5 := nI g) (P0 := ai' 93) (fun l6 => by
            have n1 := nxt (g, dgj en jn 0 (fun _ => 0) w) (iu (iu (iu ai' 94 TR) 95 LD) 93 (ovr (ai' 93) 0 jn (iu (iu ai' 94 TR) 95 LD 94))) l4 (some (.int (nI g))) l6 st.symm (by omega) (fun k hk => by rw [iu_ne (by omega)]; exact fr2 k hk) (fun q hq => by rw [iu_at, ovr0_in hq, iu_ne (by decide), iu_at, hTR q hq, ← ds q hq])
            have e9 : bsI g = nI g := if_neg (by omega)
            rw [show ((g, dgj en jn 0 (fun _ => 0) w) : Nat × (Nat → Nat)).1 = g from rfl, e9] at n1
            exact n1) jn 0 (by omega)
          have e8 : iu (iu (iu ai' 94 TR) 95 LD) 93 (ai' 93) = iu (iu ai' 94 TR) 95 LD := iu_same (by rw [iu_ne (by decide), iu_ne (by decide)])
          rw [ovr_0, e8] at cp
          by_cases c0 : cur.1 = 1000000
          · have e9 : bsI cur.1 = -1 := if_pos c0
            rw [e9]
            simp (disch := first | assumption | omega | decide | (simp only [List.length_cons, List.length_nil, Nat.reduceAdd, Nat.reduceLT]; done) | fail) only [r285_79, q285_80 k1 h.ci, r285_83, r285_85, r285_87, r285_90, r285_91, r285_94, r285_96, r285_97, r285_100, r285_103, r285_105, r285_106, r285_107, WPo_some, List.getElem?_cons_succ, List.getElem?_cons_zero, kil_n, kil_i, kil_a, kil_u, kil_l, Option.toList_some, Option.toList_none, List.cons_append, List.nil_append, List.set_cons_succ, List.set_cons_zero, addm1, Nat.reduceAdd, List.length_cons, List.length_nil, Nat.reduceLT, nI_clamp, nI_toInt, nI_leL, nI_Lle, nI_ltL, nI_Llt, nI_eqL, nI_Leq, nI_leE, nI_ltE, nI_eqE, nI_eqM, nI_add, nI_addL, nI_Ladd, nI_mulL, nI_Lmul, pk_mul, pk_sub, nI_subL, nI_Lsub, i2l_nI, Int.toNat_natCast, Nat.not_lt_zero, Nat.zero_le, ifT, ifF, not_true_eq_false, not_false_eq_true, if_true, if_false, or_self, and_self, true_and, and_true, or_true, true_or, false_or, or_false, false_and, and_false, show (-1 : Int32) < 0 by decide]
            exact cp _
          · have e9 : bsI cur.1 = nI cur.1 := if_neg c0
            rw [e9]
            simp (disch := first | assumption | omega | decide | (simp only [List.length_cons, List.length_nil, Nat.reduceAdd, Nat.reduceLT]; done) | fail) only [r285_79, q285_80 k1 h.ci, r285_83, r285_85, r285_87, r285_90, r285_91, r285_94, r285_96, r285_97, r285_100, r285_103, r285_105, r285_106, r285_107, WPo_some, List.getElem?_cons_succ, List.getElem?_cons_zero, kil_n, kil_i, kil_a, kil_u, kil_l, Option.toList_some, Option.toList_none, List.cons_append, List.nil_append, List.set_cons_succ, List.set_cons_zero, addm1, Nat.reduceAdd, List.length_cons, List.length_nil, Nat.reduceLT, nI_clamp, nI_toInt, nI_leL, nI_Lle, nI_ltL, nI_Llt, nI_eqL, nI_Leq, nI_leE, nI_ltE, nI_eqE, nI_eqM, nI_add, nI_addL, nI_Ladd, nI_mulL, nI_Lmul, pk_mul, pk_sub, nI_subL, nI_Lsub, i2l_nI, Int.toNat_natCast, Nat.not_lt_zero, Nat.zero_le, ifT, ifF, not_true_eq_false, not_false_eq_true, if_true, if_false, or_self, and_self, true_and, and_true, or_true, true_or, false_or, or_false, false_and, and_false]
            exact cp _
        · have st : stJ (some g) (dgj en jn 0 (fun _ => 0) w) cur = cur := if_neg y
          have n1 := nxt cur (iu (iu ai' 94 TR) 95 LD) (some (.int (nI (w / en ^ jn)))) (some (.int (nI g))) l6 st.symm hc fr2 (fun q hq => by rw [iu_ne (by decide), iu_ne (by decide)]; exact hp q hq)
          have e9 : bsI cur.1 = nI cur.1 := if_neg (by omega)
          rw [e9] at n1 ⊢
          simp (disch := first | assumption | omega | decide | (simp only [List.length_cons, List.length_nil, Nat.reduceAdd, Nat.reduceLT]; done) | fail) only [r285_79, q285_80 k1 h.ci, r285_83, r285_85, r285_87, r285_90, r285_91, r285_94, r285_96, r285_97, r285_100, WPo_some, List.getElem?_cons_succ, List.getElem?_cons_zero, kil_n, kil_i, kil_a, kil_u, kil_l, Option.toList_some, Option.toList_none, List.cons_append, List.nil_append, List.set_cons_succ, List.set_cons_zero, addm1, Nat.reduceAdd, List.length_cons, List.length_nil, Nat.reduceLT, nI_clamp, nI_toInt, nI_leL, nI_Lle, nI_ltL, nI_Llt, nI_eqL, nI_Leq, nI_leE, nI_ltE, nI_eqE, nI_eqM, nI_add, nI_addL, nI_Ladd, nI_mulL, nI_Lmul, pk_mul, pk_sub, nI_subL, nI_Lsub, i2l_nI, Int.toNat_natCast, Nat.not_lt_zero, Nat.zero_le, ifT, ifF, not_true_eq_false, not_false_eq_true, if_true, if_false, or_self, and_self, true_and, and_true, or_true, true_or, false_or, or_false, false_and, and_false]
          exact n1) jn 0 (ai' 94) (by omega) (fun k x y => absurd y (by omega))
    rw [iu_self, Nat.pow_zero, Nat.div_one] at ld
    rw [r285_29]
    simp (disch := first | assumption | omega | decide | (simp only [List.length_cons, List.length_nil, Nat.reduceAdd, Nat.reduceLT]; done) | fail) only [r285_30, r285_31, r285_34, r285_35, r285_37, r285_38, r285_41, r285_42, r285_43, mh_o h, gm_82, hj.2.1, WPo_some, List.getElem?_cons_succ, List.getElem?_cons_zero, kil_n, kil_i, kil_a, kil_u, kil_l, Option.toList_some, Option.toList_none, List.cons_append, List.nil_append, List.set_cons_succ, List.set_cons_zero, addm1, Nat.reduceAdd, List.length_cons, List.length_nil, Nat.reduceLT, nI_clamp, nI_toInt, nI_leL, nI_Lle, nI_ltL, nI_Llt, nI_eqL, nI_Leq, nI_leE, nI_ltE, nI_eqE, nI_eqM, nI_add, nI_addL, nI_Ladd, nI_mulL, nI_Lmul, pk_mul, pk_sub, nI_subL, nI_Lsub, i2l_nI, Int.toNat_natCast, Nat.not_lt_zero, Nat.zero_le, ifT, ifF, not_true_eq_false, not_false_eq_true, if_true, if_false, or_self, and_self, true_and, and_true, or_true, true_or, false_or, or_false, false_and, and_false]
    exact ld
theorem m_parts (h : MO E ah m ma) (hm : enM v ai en ax wh rx fg tu ms mq) (hj : jbM v ai jn ja jw jt) : ∃ ai' cc, (∀ k, ¬ (93 ≤ k ∧ k ≤ 95) → ai' k = ai k) ∧ (∀ q, q < jn → ai' 93 q = nI ((jRes en ax wh jn ja jw jt cc).2 q)) ∧ EV E (c + 2) 285 [.ref m] (mh E ah m ma v ai al) (some (.int (bsI (jRes en ax wh jn ja jw jt (fun _ => 0)).1))) (mh E ah m ma v ai' al) := by
  have h4 := hm.1
  have h7 := hj.1
  obtain ⟨cc, hcc⟩ : ∃ cc : Nat → Nat, ∀ q, ai 93 q = nI (cc q) := ⟨fun q => (nI_any (ai 93 q)).choose, fun q => (nI_any (ai 93 q)).choose_spec⟩
  have l := l_pv (c := c) (al := al) h hm hj (en ^ jn) 0 (1000000, cc) ai none none none (by omega) (Nat.le_refl _) (fun k hk => rfl) (fun q hq => hcc q)
  have e1 : ∀ k, fo (fun cur v => stJ (mo (fitJ ax wh ja jw) jt jn 0 (dgj en jn 0 (fun _ => 0) v) (fun _ => 0) 0) (dgj en jn 0 (fun _ => 0) v) cur) (en ^ jn) 0 (1000000, k) = jRes en ax wh jn ja jw jt k := fun k => all_asg jn 0 (fun _ => 0) (fun _ => 0) 0 (1000000, k)
  rw [e1] at l
  obtain ⟨r1, x1, ⟨ai', p1, p2, hr1, hx1⟩, hw⟩ := l.ex
  subst hr1 hx1
  rw [jRes_1 (cc := cc)] at hw
  refine ⟨ai', cc, p1, p2, e285 ?_⟩
  have lw := l_ways (c := c + 2) (v := v) (ai := ai) (al := al) h h4 hm.2.1 h7 hj.2.1 (Q := fun r1 x1 => r1 = some (.int (bsI (jRes en ax wh jn ja jw jt (fun _ => 0)).1)) ∧ x1 = mh E ah m ma v ai' al) (by
    simp (disch := first | assumption | omega | decide | (simp only [List.length_cons, List.length_nil, Nat.reduceAdd, Nat.reduceLT]; done) | fail) only [r285_25, r285_26, r285_27, r285_28, WPo_some, List.getElem?_cons_succ, List.getElem?_cons_zero, kil_n, kil_i, kil_a, kil_u, kil_l, Option.toList_some, Option.toList_none, List.cons_append, List.nil_append, List.set_cons_succ, List.set_cons_zero, addm1, Nat.reduceAdd, List.length_cons, List.length_nil, Nat.reduceLT]
    exact hw) jn 0 (by omega)
  simp (disch := first | assumption | omega | decide | (simp only [List.length_cons, List.length_nil, Nat.reduceAdd, Nat.reduceLT]; done) | fail) only [r285_0, r285_1, r285_2, r285_3, WPo_some, List.getElem?_cons_succ, List.getElem?_cons_zero, kil_n, kil_i, kil_a, kil_u, kil_l, Option.toList_some, Option.toList_none, List.cons_append, List.nil_append, List.set_cons_succ, List.set_cons_zero, addm1, Nat.reduceAdd, List.length_cons, List.length_nil, Nat.reduceLT]
  exact lw
theorem bsI_neg {p : Nat} (hp : p ≤ 1000000) : (0 ≤ bsI p) = ¬ p = 1000000 := by
  unfold bsI
  by_cases z : p = 1000000
  · rw [if_pos z]
    simp only [z]
    decide
  · rw [if_neg z]
    apply propext
    constructor
    · exact fun _ => z
    · exact fun _ => nI_pos' (by omega)
theorem m_part (h : MO E ah m ma) (hm : enM v ai en ax wh rx fg tu ms mq) (hj : jbM v ai jn ja jw jt) : ∃ ai', (∀ k, ¬ (93 ≤ k ∧ k ≤ 95) → ai' k = ai k) ∧ EV E (c + 3) 287 [.ref m] (mh E ah m ma v ai al) (some (.int (if paSt en ax wh jn ja jw jt = 0 then nI (jRes en ax wh jn ja jw jt (fun _ => 0)).1 else -1))) (mh E ah m ma (vu (vu v 1 (.int 0)) 0 (.int (paSt en ax wh jn ja jw jt))) ai' al) := by
  have hm' : enM (vu (vu v 1 (.int 0)) 0 (.int 0)) ai en ax wh rx fg tu ms mq := hm
  have hj' : jbM (vu (vu v 1 (.int 0)) 0 (.int 0)) ai jn ja jw jt := hj
  obtain ⟨ai', cc, p1, p2, p3⟩ := m_parts (c := c) (al := al) h hm' hj'
  have le := jRes_le (en := en) (ax := ax) (wh := wh) (jn := jn) (ja := ja) (jw := jw) (jt := jt) (cc := fun _ => 0)
  have bs := bsI_neg le
  refine ⟨ai', p1, e287 ?_⟩
  unfold paSt
  by_cases z : (jRes en ax wh jn ja jw jt (fun _ => 0)).1 = 1000000
  · simp (disch := first | assumption | omega | decide | (simp only [List.length_cons, List.length_nil, Nat.reduceAdd, Nat.reduceLT]; done) | fail) only [r287_0, r287_1, r287_2, r287_5, r287_6, r287_7, r287_10, r287_14, r287_15, r287_16, r287_19, r287_20, r287_25, r287_28, r287_29, mh_o h, mh_put h, pm_1, pm_0, q287_11 p3 h.ci, q287_22 (m_refuse h) h.ci, bs, z, show bsI 1000000 = -1 from if_pos rfl, show ¬ (0 : Int32) ≤ -1 by decide, WPo_some, List.getElem?_cons_succ, List.getElem?_cons_zero, kil_n, kil_i, kil_a, kil_u, kil_l, Option.toList_some, Option.toList_none, List.cons_append, List.nil_append, List.set_cons_succ, List.set_cons_zero, addm1, Nat.reduceAdd, List.length_cons, List.length_nil, Nat.reduceLT, not_true_eq_false, not_false_eq_true, if_true, if_false, or_self, and_self, true_and, and_true, or_true, true_or, false_or, or_false, false_and, and_false, vu_vu, show ¬ (9 : Int32) = 0 by decide]
  · have e9 : bsI (jRes en ax wh jn ja jw jt (fun _ => 0)).1 = nI (jRes en ax wh jn ja jw jt (fun _ => 0)).1 := if_neg z
    rw [e9] at p3 bs
    simp (disch := first | assumption | omega | decide | (simp only [List.length_cons, List.length_nil, Nat.reduceAdd, Nat.reduceLT]; done) | fail) only [r287_0, r287_1, r287_2, r287_5, r287_6, r287_7, r287_10, r287_14, r287_15, r287_16, r287_19, r287_20, r287_25, r287_28, r287_29, mh_o h, mh_put h, pm_1, pm_0, q287_11 p3 h.ci, bs, z, WPo_some, List.getElem?_cons_succ, List.getElem?_cons_zero, kil_n, kil_i, kil_a, kil_u, kil_l, Option.toList_some, Option.toList_none, List.cons_append, List.nil_append, List.set_cons_succ, List.set_cons_zero, addm1, Nat.reduceAdd, List.length_cons, List.length_nil, Nat.reduceLT, not_true_eq_false, not_false_eq_true, if_true, if_false, or_self, and_self, true_and, and_true, or_true, true_or, false_or, or_false, false_and, and_false]
theorem m_partOf (h : MO E ah m ma) (hm : enM v ai en ax wh rx fg tu ms mq) (hj : jbM v ai jn ja jw jt) {x : Int32} : ∃ ai', (∀ k, ¬ (93 ≤ k ∧ k ≤ 95) → ai' k = ai k) ∧ EV E (c + 3) 288 [.ref m, .int x] (mh E ah m ma v ai al) (some (.int (if poJ en ax wh jn ja jw jt x = 0 then nI ((jRes en ax wh jn ja jw jt (fun _ => 0)).2 x.toInt.toNat) else -1))) (mh E ah m ma (vu (vu v 1 (.int 0)) 0 (.int (poJ en ax wh jn ja jw jt x))) ai' al) := by
  have h7 := hj.1
  have hm' : enM (vu (vu v 1 (.int 0)) 0 (.int 0)) ai en ax wh rx fg tu ms mq := hm
  have hj' : jbM (vu (vu v 1 (.int 0)) 0 (.int 0)) ai jn ja jw jt := hj
  obtain ⟨ai', cc, p1, p2, p3⟩ := m_parts (c := c) (al := al) h hm' hj'
  have hv : vu (vu v 1 (.int 0)) 0 (.int 0) 82 = .int (nI jn) := hj.2.1
  have le := jRes_le (en := en) (ax := ax) (wh := wh) (jn := jn) (ja := ja) (jw := jw) (jt := jt) (cc := fun _ => 0)
  have bs := bsI_neg le
  unfold poJ paSt
  by_cases h1 : 0 ≤ x.toInt ∧ x.toInt < jn
  · by_cases z : (jRes en ax wh jn ja jw jt (fun _ => 0)).1 = 1000000
    · refine ⟨ai', p1, e288 ?_⟩
      simp (disch := first | assumption | omega | decide | (simp only [List.length_cons, List.length_nil, Nat.reduceAdd, Nat.reduceLT]; done) | fail) only [r288_0, r288_1, r288_2, r288_5, r288_6, r288_7, r288_10, r288_11, r288_12, r288_13, r288_14, r288_17, r288_18, r288_19, r288_23, r288_26, r288_27, r288_31, r288_32, r288_36, r288_39, r288_40, r288_45, r288_48, r288_49, r288_52, r288_53, r288_54, mh_o h, mh_put h, pm_1, pm_0, gm_82, hv, q288_20 m_isIn, q288_33 p3 h.ci, q288_42 (m_refuse h) h.ci, lsb1, i64_lt, i64_le, i2l_toInt, Int64.reduceToInt, b2i_eq0, h1, bs, z, show bsI 1000000 = -1 from if_pos rfl, show ¬ (0 : Int32) ≤ -1 by decide, WPo_some, List.getElem?_cons_succ, List.getElem?_cons_zero, kil_n, kil_i, kil_a, kil_u, kil_l, Option.toList_some, Option.toList_none, List.cons_append, List.nil_append, List.set_cons_succ, List.set_cons_zero, addm1, Nat.reduceAdd, List.length_cons, List.length_nil, Nat.reduceLT, not_true_eq_false, not_false_eq_true, if_true, if_false, or_self, and_self, true_and, and_true, or_true, true_or, false_or, or_false, false_and, and_false, vu_vu, show ¬ (9 : Int32) = 0 by decide]
    · obtain ⟨q, hq, rfl⟩ := i32_nat (n := jn) h1.1 h1.2
      have eq := nI_toInt (show q < 2 ^ 31 by omega)
      have h1' := h1
      rw [eq] at h1'
      have e2 := p2 q hq
      rw [jRes_2 (cc' := fun _ => 0) z] at e2
      refine ⟨ai', p1, e288 ?_⟩
      simp (disch := first | assumption | omega | decide | (simp only [List.length_cons, List.length_nil, Nat.reduceAdd, Nat.reduceLT]; done) | fail) only [r288_0, r288_1, r288_2, r288_5, r288_6, r288_7, r288_10, r288_11, r288_12, r288_13, r288_14, r288_17, r288_18, r288_19, r288_23, r288_26, r288_27, r288_31, r288_32, r288_36, r288_39, r288_40, r288_45, r288_48, r288_49, r288_52, r288_53, r288_54, mh_o h, mh_put h, pm_1, pm_0, gm_82, gm_93, hv, q288_20 m_isIn, q288_33 p3 h.ci, gI, hm_93 h, e2, lsb1, i64_lt, i64_le, i2l_toInt, Int64.reduceToInt, b2i_eq0, h1, h1', eq, Int.toNat_natCast, bs, z, WPo_some, List.getElem?_cons_succ, List.getElem?_cons_zero, kil_n, kil_i, kil_a, kil_u, kil_l, Option.toList_some, Option.toList_none, List.cons_append, List.nil_append, List.set_cons_succ, List.set_cons_zero, addm1, Nat.reduceAdd, List.length_cons, List.length_nil, Nat.reduceLT, nI_clamp, nI_toInt, nI_leL, nI_Lle, nI_ltL, nI_Llt, nI_eqL, nI_Leq, nI_leE, nI_ltE, nI_eqE, nI_eqM, nI_add, nI_addL, nI_Ladd, nI_mulL, nI_Lmul, pk_mul, pk_sub, nI_subL, nI_Lsub, i2l_nI, Int.toNat_natCast, Nat.not_lt_zero, Nat.zero_le, ifT, ifF, not_true_eq_false, not_false_eq_true, if_true, if_false, or_self, and_self, true_and, and_true, or_true, true_or, false_or, or_false, false_and, and_false]
  · refine ⟨ai, fun k hk => rfl, e288 ?_⟩
    simp (disch := first | assumption | omega | decide | (simp only [List.length_cons, List.length_nil, Nat.reduceAdd, Nat.reduceLT]; done) | fail) only [r288_0, r288_1, r288_2, r288_5, r288_6, r288_7, r288_10, r288_11, r288_12, r288_13, r288_14, r288_17, r288_18, r288_19, r288_23, r288_26, r288_27, r288_31, r288_32, r288_36, r288_39, r288_40, r288_45, r288_48, r288_49, r288_52, r288_53, r288_54, mh_o h, mh_put h, pm_1, pm_0, gm_82, hv, q288_20 m_isIn, q288_28 (m_refuse h) h.ci, lsb1, i64_lt, i64_le, i2l_toInt, Int64.reduceToInt, b2i_eq0, h1, WPo_some, List.getElem?_cons_succ, List.getElem?_cons_zero, kil_n, kil_i, kil_a, kil_u, kil_l, Option.toList_some, Option.toList_none, List.cons_append, List.nil_append, List.set_cons_succ, List.set_cons_zero, addm1, Nat.reduceAdd, List.length_cons, List.length_nil, Nat.reduceLT, not_true_eq_false, not_false_eq_true, if_true, if_false, or_self, and_self, true_and, and_true, or_true, true_or, false_or, or_false, false_and, and_false, vu_vu, show ¬ (2 : Int32) = 0 by decide]
end JM2

/-! The model's cards: the next token, faults, numbers -/
section MNX
variable {E : aEnv} {c m : Nat} {ah : aHp} {ma : Nat → Nat} {v : Nat → Value} {ai : Nat → Nat → Int32} {al : Nat → Nat → Int64} {T : Nat → Int32} {n : Nat}
theorem m_next (h : MO E ah m ma) (hT : ai 28 = T) (hn : n ≤ 500) {p fa : Nat} {fp : Int32} (hp : p ≤ n) (h30 : v 30 = .int (nI n)) (h37 : v 37 = .int (nI p)) (h33 : v 33 = .int (nI fa)) (h34 : ¬ fa = 0 → v 34 = .int fp) : ∃ v', EV E (c + 2) 239 [.ref m] (mh E ah m ma v ai al) none (mh E ah m ma v' ai al) ∧ cdM v' T n (p, fa, fp) ∧ frR v v' := by
  have hS := nxS_le (T := T) hp
  have hEl := nxE_le (T := T) hp
  let s := nxS T n p
  let Q : Option Value → aHp → Prop := fun r x => r = none ∧ ∃ v', x = mh E ah m ma v' ai al ∧ cdM v' T n (p, fa, fp) ∧ frR v v'
  obtain ⟨V, hV⟩ : ∃ V, vu (vu v 36 (.int (nI s))) 37 (.int (nI s)) = V := ⟨_, rfl⟩
  have V36 : V 36 = .int (nI s) := by rw [← hV, vu_ne (by decide), vu_at]
  have V37 : V 37 = .int (nI s) := by rw [← hV, vu_at]
  have V30 : V 30 = .int (nI n) := by rw [← hV, vu_ne (by decide), vu_ne (by decide), h30]
  have V33 : V 33 = .int (nI fa) := by rw [← hV, vu_ne (by decide), vu_ne (by decide), h33]
  have V34 : ¬ fa = 0 → V 34 = .int fp := fun z => by rw [← hV, vu_ne (by decide), vu_ne (by decide), h34 z]
  have Vn : ∀ q, ¬ q = 36 → ¬ q = 37 → V q = v q := fun q h1 h2 => by rw [← hV, vu_ne h2, vu_ne h1]
  have k := m_look (E := E) (c := c + 1) (v := V) (al := al) h hT hn V30 (show s ≤ 500 by omega)
  have b1 := lkN_lt (T := T) (n := n) (p := s)
  have kl := m_isLetter (E := E) (c := c + 1) (ah := mh E ah m ma V ai al) b1
  have kd := m_isDigit (E := E) (c := c + 1) (ah := mh E ah m ma V ai al) b1
  have vS : ∀ (W : Nat → Value) (a : Nat) (x : Value), W a = x → vu W a x = W := fun W a x hx => by rw [← hx]; exact vu_self
  have main : WP E (c + 2) 239 8 [some (.ref m), none] [] (mh E ah m ma (vu v 36 (.int (nI p))) ai al) Q := by
    refine l_mn1 (c := c + 1) h hT hn h30 (n - p) p (by omega) ?_
    rw [show skF T (n - p) p = s from rfl]
    by_cases y : n ≤ s
    · have g0 : nxC T n p = 0 := by rw [nxC_0]; exact y
      have eT : nxT T n p = 0 := by unfold nxT; rw [g0, if_neg (by omega)]
      have eE : nxE T n p = s := by unfold nxE; rw [if_pos g0]
      simp (disch := first | assumption | omega | decide | (simp only [List.length_cons, List.length_nil, Nat.reduceAdd, Nat.reduceLT]; done) | fail) only [r239_58, r239_59, r239_60, r239_63, r239_66, r239_67, r239_70, r239_71, r239_74, r239_77, r239_78, r239_79, r239_82, mh_o h, mh_put h, gm_36, gm_30, pm_37, pm_35, vu_at, vu_ne, h30, y, WPo_some, List.getElem?_cons_succ, List.getElem?_cons_zero, kil_n, kil_i, kil_a, kil_u, kil_l, Option.toList_some, Option.toList_none, List.cons_append, List.nil_append, List.set_cons_succ, List.set_cons_zero, addm1, Nat.reduceAdd, List.length_cons, List.length_nil, Nat.reduceLT, nI_clamp, nI_toInt, nI_leL, nI_Lle, nI_ltL, nI_Llt, nI_eqL, nI_Leq, nI_leE, nI_ltE, nI_eqE, nI_eqM, nI_add, nI_addL, nI_Ladd, nI_mulL, nI_Lmul, pk_mul, pk_sub, nI_subL, nI_Lsub, i2l_nI, Int.toNat_natCast, Nat.not_lt_zero, Nat.zero_le, ifT, ifF, not_true_eq_false, not_false_eq_true, if_true, if_false, or_self, and_self, true_and, and_true, or_true, true_or, false_or, or_false, false_and, and_false]
      refine ⟨rfl, _, rfl, ⟨?_, ?_, fun z => ?_, ?_, ?_, ?_, ?_⟩, fun q hq => ?_⟩
      · simp (disch := first | assumption | omega | decide | (simp only [List.length_cons, List.length_nil, Nat.reduceAdd, Nat.reduceLT]; done) | fail) only [vu_ne, h30]
      · simp (disch := first | assumption | omega | decide | (simp only [List.length_cons, List.length_nil, Nat.reduceAdd, Nat.reduceLT]; done) | fail) only [vu_ne, h33]
      · simp (disch := first | assumption | omega | decide | (simp only [List.length_cons, List.length_nil, Nat.reduceAdd, Nat.reduceLT]; done) | fail) only [vu_ne, h34 z]
      · dsimp only; rw [vu_at, eT]; rfl
      · dsimp only; simp (disch := first | assumption | omega | decide | (simp only [List.length_cons, List.length_nil, Nat.reduceAdd, Nat.reduceLT]; done) | fail) only [vu_ne, vu_at]; rfl
      · dsimp only; simp (disch := first | assumption | omega | decide | (simp only [List.length_cons, List.length_nil, Nat.reduceAdd, Nat.reduceLT]; done) | fail) only [vu_ne, vu_at]; rw [eE]
      · dsimp only; rw [eT]; exact ⟨fun z => absurd z (by decide), fun z => absurd z (by decide), fun z => absurd z (by decide), fun z => absurd z (by decide)⟩
      · simp (disch := first | assumption | omega | decide | (simp only [List.length_cons, List.length_nil, Nat.reduceAdd, Nat.reduceLT]; done) | fail) only [vu_ne]
    · have lk : lkN T n s = bt T s := if_pos (by omega)
      rw [lk] at k kl kd b1
      have eC : nxC T n p = clB (bt T s) := by unfold nxC cl; exact if_pos (by omega)
      have g0 : ¬ nxC T n p = 0 := by rw [nxC_0]; exact y
      by_cases y1 : clB (bt T s) = 1
      · have eT : nxT T n p = 1 := by unfold nxT; rw [eC, y1, if_neg (by omega)]
        obtain ⟨-, eE, -, -⟩ := nx_word eT
        have ex : exF T 1 (n - s) (s + 0) = nxE T n p := by
          rw [eE, show n - s = (n - (s + 1)) + 1 by omega, exF, Nat.add_zero, if_pos y1]
        have l := l_mn2 (c := c + 1) (al := al) h hT hn (v := vu V 35 (.int 1)) (s := s) (by rw [vu_ne (by decide)]; exact V30) (by rw [vu_ne (by decide)]; exact V36) (l1 := some (.int (nI (bt T s)))) (Q := Q) (n - s) 0 (by omega) (fun j h1 h2 => absurd h2 (by omega)) (by
          rw [ex]
          simp (disch := first | assumption | omega | decide | (simp only [List.length_cons, List.length_nil, Nat.reduceAdd, Nat.reduceLT]; done) | fail) only [r239_182, r239_183, r239_184, r239_187, r239_188, r239_191, r239_192, r239_195, r239_340, mh_o h, mh_put h, gm_37, gm_36, pm_38, vu_at, vu_ne, V36, V37, WPo_some, List.getElem?_cons_succ, List.getElem?_cons_zero, kil_n, kil_i, kil_a, kil_u, kil_l, Option.toList_some, Option.toList_none, List.cons_append, List.nil_append, List.set_cons_succ, List.set_cons_zero, addm1, Nat.reduceAdd, List.length_cons, List.length_nil, Nat.reduceLT, nI_clamp, nI_toInt, nI_leL, nI_Lle, nI_ltL, nI_Llt, nI_eqL, nI_Leq, nI_leE, nI_ltE, nI_eqE, nI_eqM, nI_add, nI_addL, nI_Ladd, nI_mulL, nI_Lmul, pk_mul, pk_sub, nI_subL, nI_Lsub, i2l_nI, Int.toNat_natCast, Nat.not_lt_zero, Nat.zero_le, ifT, ifF, not_true_eq_false, not_false_eq_true, if_true, if_false, or_self, and_self, true_and, and_true, or_true, true_or, false_or, or_false, false_and, and_false]
          refine ⟨rfl, _, rfl, ⟨?_, ?_, fun z => ?_, ?_, ?_, ?_, fun _ => ?_, ?_⟩, fun q hq => ?_⟩
          · simp (disch := first | assumption | omega | decide | (simp only [List.length_cons, List.length_nil, Nat.reduceAdd, Nat.reduceLT]; done) | fail) only [vu_ne, V30]
          · simp (disch := first | assumption | omega | decide | (simp only [List.length_cons, List.length_nil, Nat.reduceAdd, Nat.reduceLT]; done) | fail) only [vu_ne, V33]
          · simp (disch := first | assumption | omega | decide | (simp only [List.length_cons, List.length_nil, Nat.reduceAdd, Nat.reduceLT]; done) | fail) only [vu_ne, V34 z]
          · dsimp only; simp (disch := first | assumption | omega | decide | (simp only [List.length_cons, List.length_nil, Nat.reduceAdd, Nat.reduceLT]; done) | fail) only [vu_ne, vu_at, V36, V37]; rw [eT]; rfl
          · dsimp only; simp (disch := first | assumption | omega | decide | (simp only [List.length_cons, List.length_nil, Nat.reduceAdd, Nat.reduceLT]; done) | fail) only [vu_ne, vu_at, V36, V37]; rfl
          · dsimp only; simp (disch := first | assumption | omega | decide | (simp only [List.length_cons, List.length_nil, Nat.reduceAdd, Nat.reduceLT]; done) | fail) only [vu_ne, vu_at, V36, V37]
          · dsimp only; simp (disch := first | assumption | omega | decide | (simp only [List.length_cons, List.length_nil, Nat.reduceAdd, Nat.reduceLT]; done) | fail) only [vu_ne, vu_at, V36, V37]; rfl
          · dsimp only; rw [eT]; exact ⟨fun z => absurd z (by decide), fun z => absurd z (by decide), fun z => absurd z (by decide)⟩
          · simp (disch := first | assumption | omega | decide | (simp only [List.length_cons, List.length_nil, Nat.reduceAdd, Nat.reduceLT]; done) | fail) only [vu_ne, Vn])
        rw [if_pos (by decide), show s + 0 = s from rfl, show sgL T 0 s = [] from rfl, wcF, show lN 0 = 0 from rfl, vS (vu V 35 (.int 1)) 37 (.int (nI s)) (by rw [vu_ne (by decide)]; exact V37)] at l
        simp (disch := first | assumption | omega | decide | (simp only [List.length_cons, List.length_nil, Nat.reduceAdd, Nat.reduceLT]; done) | fail) only [r239_58, r239_59, r239_60, r239_63, r239_66, r239_67, r239_70, r239_71, r239_74, r239_77, r239_78, r239_79, r239_82, r239_83, r239_84, r239_85, r239_91, r239_92, r239_96, r239_99, r239_100, r239_101, r239_104, r239_105, r239_106, mh_o h, mh_put h, gm_36, gm_30, pm_37, pm_35, pm_39, vu_at, vu_ne, h30, hV, V36, V30, show ¬ n ≤ s by omega, q239_88 k h.ci, q239_93 kl, b2i_eq0, eq_true y1, WPo_some, List.getElem?_cons_succ, List.getElem?_cons_zero, kil_n, kil_i, kil_a, kil_u, kil_l, Option.toList_some, Option.toList_none, List.cons_append, List.nil_append, List.set_cons_succ, List.set_cons_zero, addm1, Nat.reduceAdd, List.length_cons, List.length_nil, Nat.reduceLT, nI_clamp, nI_toInt, nI_leL, nI_Lle, nI_ltL, nI_Llt, nI_eqL, nI_Leq, nI_leE, nI_ltE, nI_eqE, nI_eqM, nI_add, nI_addL, nI_Ladd, nI_mulL, nI_Lmul, pk_mul, pk_sub, nI_subL, nI_Lsub, i2l_nI, Int.toNat_natCast, Nat.not_lt_zero, Nat.zero_le, ifT, ifF, not_true_eq_false, not_false_eq_true, if_true, if_false, or_self, and_self, true_and, and_true, or_true, true_or, false_or, or_false, false_and, and_false]
        exact l
      · by_cases y2 : clB (bt T s) = 2
        · have eC2 : nxC T n p = 2 := by rw [eC, y2]
          have eE : nxE T n p = exF T 2 (n - (s + 1)) (s + 1) := by
            unfold nxE
            rw [if_neg g0, if_pos (Or.inr eC2), eC2]
          have ex : exF T 2 (n - s) (s + 0) = nxE T n p := by
            rw [eE, show n - s = (n - (s + 1)) + 1 by omega, exF, Nat.add_zero, if_pos y2]
          have l := l_mn3 (c := c + 1) (al := al) h hT hn (v := V) (s := s) V30 V36 (l1 := some (.int (nI (bt T s)))) (Q := Q) (n - s) 0 0 (by omega) (fun _ => rfl) (fun x' hx' => by
            rw [ex] at hx' ⊢
            have e3 : nxE T n p - nxS T n p ≤ 500 := by omega
            by_cases w : 12 < nxE T n p - s
            · have eT : nxT T n p = 5 := by unfold nxT; exact if_pos ⟨eC2, w⟩
              simp (disch := first | assumption | omega | decide | (simp only [List.length_cons, List.length_nil, Nat.reduceAdd, Nat.reduceLT]; done) | fail) only [r239_277, r239_278, r239_279, r239_282, r239_283, r239_286, r239_287, r239_289, r239_292, r239_293, r239_296, r239_297, r239_300, r239_340, mh_o h, mh_put h, gm_37, gm_36, pm_35, vu_at, vu_ne, V36, V37, w, WPo_some, List.getElem?_cons_succ, List.getElem?_cons_zero, kil_n, kil_i, kil_a, kil_u, kil_l, Option.toList_some, Option.toList_none, List.cons_append, List.nil_append, List.set_cons_succ, List.set_cons_zero, addm1, Nat.reduceAdd, List.length_cons, List.length_nil, Nat.reduceLT, nI_clamp, nI_toInt, nI_leL, nI_Lle, nI_ltL, nI_Llt, nI_eqL, nI_Leq, nI_leE, nI_ltE, nI_eqE, nI_eqM, nI_add, nI_addL, nI_Ladd, nI_mulL, nI_Lmul, pk_mul, pk_sub, nI_subL, nI_Lsub, i2l_nI, Int.toNat_natCast, Nat.not_lt_zero, Nat.zero_le, ifT, ifF, not_true_eq_false, not_false_eq_true, if_true, if_false, or_self, and_self, true_and, and_true, or_true, true_or, false_or, or_false, false_and, and_false]
              refine ⟨rfl, _, rfl, ⟨?_, ?_, fun z => ?_, ?_, ?_, ?_, ?_⟩, fun q hq => ?_⟩
              · simp (disch := first | assumption | omega | decide | (simp only [List.length_cons, List.length_nil, Nat.reduceAdd, Nat.reduceLT]; done) | fail) only [vu_ne, V30]
              · simp (disch := first | assumption | omega | decide | (simp only [List.length_cons, List.length_nil, Nat.reduceAdd, Nat.reduceLT]; done) | fail) only [vu_ne, V33]
              · simp (disch := first | assumption | omega | decide | (simp only [List.length_cons, List.length_nil, Nat.reduceAdd, Nat.reduceLT]; done) | fail) only [vu_ne, V34 z]
              · dsimp only; simp (disch := first | assumption | omega | decide | (simp only [List.length_cons, List.length_nil, Nat.reduceAdd, Nat.reduceLT]; done) | fail) only [vu_ne, vu_at, V36, V37]; rw [eT]; rfl
              · dsimp only; simp (disch := first | assumption | omega | decide | (simp only [List.length_cons, List.length_nil, Nat.reduceAdd, Nat.reduceLT]; done) | fail) only [vu_ne, vu_at, V36, V37]; rfl
              · dsimp only; simp (disch := first | assumption | omega | decide | (simp only [List.length_cons, List.length_nil, Nat.reduceAdd, Nat.reduceLT]; done) | fail) only [vu_ne, vu_at, V36, V37]
              · dsimp only; rw [eT]; exact ⟨fun z => absurd z (by decide), fun z => absurd z (by decide), fun z => absurd z (by decide), fun z => absurd z (by decide)⟩
              · simp (disch := first | assumption | omega | decide | (simp only [List.length_cons, List.length_nil, Nat.reduceAdd, Nat.reduceLT]; done) | fail) only [vu_ne, Vn]
            · have eT : nxT T n p = 2 := by unfold nxT; rw [if_neg (fun z => w z.2), eC2]
              have eV : nxV T n p = x' := by
                unfold nxV
                rw [if_pos eT, hx' (by omega)]
              simp (disch := first | assumption | omega | decide | (simp only [List.length_cons, List.length_nil, Nat.reduceAdd, Nat.reduceLT]; done) | fail) only [r239_277, r239_278, r239_279, r239_282, r239_283, r239_286, r239_287, r239_289, r239_292, r239_293, r239_296, r239_297, r239_300, r239_340, mh_o h, mh_put h, gm_37, gm_36, pm_35, vu_at, vu_ne, V36, V37, w, WPo_some, List.getElem?_cons_succ, List.getElem?_cons_zero, kil_n, kil_i, kil_a, kil_u, kil_l, Option.toList_some, Option.toList_none, List.cons_append, List.nil_append, List.set_cons_succ, List.set_cons_zero, addm1, Nat.reduceAdd, List.length_cons, List.length_nil, Nat.reduceLT, nI_clamp, nI_toInt, nI_leL, nI_Lle, nI_ltL, nI_Llt, nI_eqL, nI_Leq, nI_leE, nI_ltE, nI_eqE, nI_eqM, nI_add, nI_addL, nI_Ladd, nI_mulL, nI_Lmul, pk_mul, pk_sub, nI_subL, nI_Lsub, i2l_nI, Int.toNat_natCast, Nat.not_lt_zero, Nat.zero_le, ifT, ifF, not_true_eq_false, not_false_eq_true, if_true, if_false, or_self, and_self, true_and, and_true, or_true, true_or, false_or, or_false, false_and, and_false]
              refine ⟨rfl, _, rfl, ⟨?_, ?_, fun z => ?_, ?_, ?_, ?_, ?_⟩, fun q hq => ?_⟩
              · simp (disch := first | assumption | omega | decide | (simp only [List.length_cons, List.length_nil, Nat.reduceAdd, Nat.reduceLT]; done) | fail) only [vu_ne, V30]
              · simp (disch := first | assumption | omega | decide | (simp only [List.length_cons, List.length_nil, Nat.reduceAdd, Nat.reduceLT]; done) | fail) only [vu_ne, V33]
              · simp (disch := first | assumption | omega | decide | (simp only [List.length_cons, List.length_nil, Nat.reduceAdd, Nat.reduceLT]; done) | fail) only [vu_ne, V34 z]
              · dsimp only; simp (disch := first | assumption | omega | decide | (simp only [List.length_cons, List.length_nil, Nat.reduceAdd, Nat.reduceLT]; done) | fail) only [vu_ne, vu_at, V36, V37]; rw [eT]; rfl
              · dsimp only; simp (disch := first | assumption | omega | decide | (simp only [List.length_cons, List.length_nil, Nat.reduceAdd, Nat.reduceLT]; done) | fail) only [vu_ne, vu_at, V36, V37]; rfl
              · dsimp only; simp (disch := first | assumption | omega | decide | (simp only [List.length_cons, List.length_nil, Nat.reduceAdd, Nat.reduceLT]; done) | fail) only [vu_ne, vu_at, V36, V37]
              · dsimp only; rw [eT, eV]; exact ⟨fun z => absurd z (by decide), fun _ => by simp (disch := first | assumption | omega | decide | (simp only [List.length_cons, List.length_nil, Nat.reduceAdd, Nat.reduceLT]; done) | fail) only [vu_ne, vu_at, V36, V37], fun z => absurd z (by decide), fun z => absurd z (by decide)⟩
              · simp (disch := first | assumption | omega | decide | (simp only [List.length_cons, List.length_nil, Nat.reduceAdd, Nat.reduceLT]; done) | fail) only [vu_ne, Vn])
          rw [show s + 0 = s from rfl, vS V 37 (.int (nI s)) V37] at l
          simp (disch := first | assumption | omega | decide | (simp only [List.length_cons, List.length_nil, Nat.reduceAdd, Nat.reduceLT]; done) | fail) only [r239_58, r239_59, r239_60, r239_63, r239_66, r239_67, r239_70, r239_71, r239_74, r239_77, r239_78, r239_79, r239_82, r239_83, r239_84, r239_85, r239_91, r239_92, r239_96, r239_198, r239_202, r239_205, r239_206, r239_207, mh_o h, mh_put h, gm_36, gm_30, pm_37, pm_35, pm_40, vu_at, vu_ne, h30, hV, V36, V30, show ¬ n ≤ s by omega, q239_88 k h.ci, q239_93 kl, q239_199 kd, b2i_eq0, y1, eq_true y2, WPo_some, List.getElem?_cons_succ, List.getElem?_cons_zero, kil_n, kil_i, kil_a, kil_u, kil_l, Option.toList_some, Option.toList_none, List.cons_append, List.nil_append, List.set_cons_succ, List.set_cons_zero, addm1, Nat.reduceAdd, List.length_cons, List.length_nil, Nat.reduceLT, nI_clamp, nI_toInt, nI_leL, nI_Lle, nI_ltL, nI_Llt, nI_eqL, nI_Leq, nI_leE, nI_ltE, nI_eqE, nI_eqM, nI_add, nI_addL, nI_Ladd, nI_mulL, nI_Lmul, pk_mul, pk_sub, nI_subL, nI_Lsub, i2l_nI, Int.toNat_natCast, Nat.not_lt_zero, Nat.zero_le, ifT, ifF, not_true_eq_false, not_false_eq_true, if_true, if_false, or_self, and_self, true_and, and_true, or_true, true_or, false_or, or_false, false_and, and_false]
          exact l
        · have rg := clB_rg (x := bt T s)
          have eE : nxE T n p = s + 1 := by
            unfold nxE
            rw [if_neg g0, if_neg (by rw [eC]; omega)]
          have eT : nxT T n p = clB (bt T s) := by unfold nxT; rw [eC, if_neg (fun z => y2 z.1)]
          by_cases w3 : bt T s = 59
          · have eT3 : nxT T n p = 3 := by rw [eT, w3]; rfl
            rw [w3] at y1 y2 k kl kd
            simp (disch := first | assumption | omega | decide | (simp only [List.length_cons, List.length_nil, Nat.reduceAdd, Nat.reduceLT]; done) | fail) only [r239_58, r239_59, r239_60, r239_63, r239_66, r239_67, r239_70, r239_71, r239_74, r239_77, r239_78, r239_79, r239_82, r239_83, r239_84, r239_85, r239_91, r239_92, r239_96, r239_198, r239_202, r239_303, r239_304, r239_305, r239_308, r239_309, r239_310, r239_313, r239_314, r239_315, r239_316, r239_319, r239_320, r239_321, r239_323, r239_326, r239_327, r239_329, r239_332, r239_333, r239_336, r239_337, r239_340, mh_o h, mh_put h, gm_36, gm_30, pm_37, pm_35, pm_40, vu_at, vu_ne, h30, hV, V36, V30, show ¬ n ≤ s by omega, q239_88 k h.ci, q239_93 kl, q239_199 kd, b2i_eq0, y1, y2, WPo_some, List.getElem?_cons_succ, List.getElem?_cons_zero, kil_n, kil_i, kil_a, kil_u, kil_l, Option.toList_some, Option.toList_none, List.cons_append, List.nil_append, List.set_cons_succ, List.set_cons_zero, addm1, Nat.reduceAdd, List.length_cons, List.length_nil, Nat.reduceLT, nI_clamp, nI_toInt, nI_leL, nI_Lle, nI_ltL, nI_Llt, nI_eqL, nI_Leq, nI_leE, nI_ltE, nI_eqE, nI_eqM, nI_add, nI_addL, nI_Ladd, nI_mulL, nI_Lmul, pk_mul, pk_sub, nI_subL, nI_Lsub, i2l_nI, Int.toNat_natCast, Nat.not_lt_zero, Nat.zero_le, ifT, ifF, not_true_eq_false, not_false_eq_true, if_true, if_false, or_self, and_self, true_and, and_true, or_true, true_or, false_or, or_false, false_and, and_false]
            refine ⟨rfl, _, rfl, ⟨?_, ?_, fun z => ?_, ?_, ?_, ?_, ?_⟩, fun q hq => ?_⟩
            · simp (disch := first | assumption | omega | decide | (simp only [List.length_cons, List.length_nil, Nat.reduceAdd, Nat.reduceLT]; done) | fail) only [vu_ne, V30]
            · simp (disch := first | assumption | omega | decide | (simp only [List.length_cons, List.length_nil, Nat.reduceAdd, Nat.reduceLT]; done) | fail) only [vu_ne, V33]
            · simp (disch := first | assumption | omega | decide | (simp only [List.length_cons, List.length_nil, Nat.reduceAdd, Nat.reduceLT]; done) | fail) only [vu_ne, V34 z]
            · dsimp only; simp (disch := first | assumption | omega | decide | (simp only [List.length_cons, List.length_nil, Nat.reduceAdd, Nat.reduceLT]; done) | fail) only [vu_ne, vu_at, V36, V37]; rw [eT3]; rfl
            · dsimp only; simp (disch := first | assumption | omega | decide | (simp only [List.length_cons, List.length_nil, Nat.reduceAdd, Nat.reduceLT]; done) | fail) only [vu_ne, vu_at, V36, V37]; rfl
            · dsimp only; simp (disch := first | assumption | omega | decide | (simp only [List.length_cons, List.length_nil, Nat.reduceAdd, Nat.reduceLT]; done) | fail) only [vu_ne, vu_at, V36, V37]; rw [eE]
            · dsimp only; rw [eT3]; exact ⟨fun z => absurd z (by decide), fun z => absurd z (by decide), fun _ => by simp (disch := first | assumption | omega | decide | (simp only [List.length_cons, List.length_nil, Nat.reduceAdd, Nat.reduceLT]; done) | fail) only [vu_ne, vu_at, V36, V37]; rfl, fun z => absurd z (by decide)⟩
            · simp (disch := first | assumption | omega | decide | (simp only [List.length_cons, List.length_nil, Nat.reduceAdd, Nat.reduceLT]; done) | fail) only [vu_ne, Vn]
          · by_cases w4 : bt T s = 45
            · have eT3 : nxT T n p = 4 := by rw [eT, w4]; rfl
              rw [w4] at y1 y2 k kl kd
              simp (disch := first | assumption | omega | decide | (simp only [List.length_cons, List.length_nil, Nat.reduceAdd, Nat.reduceLT]; done) | fail) only [r239_58, r239_59, r239_60, r239_63, r239_66, r239_67, r239_70, r239_71, r239_74, r239_77, r239_78, r239_79, r239_82, r239_83, r239_84, r239_85, r239_91, r239_92, r239_96, r239_198, r239_202, r239_303, r239_304, r239_305, r239_308, r239_309, r239_310, r239_313, r239_314, r239_315, r239_316, r239_319, r239_320, r239_321, r239_323, r239_326, r239_327, r239_329, r239_332, r239_333, r239_336, r239_337, r239_340, mh_o h, mh_put h, gm_36, gm_30, pm_37, pm_35, pm_40, vu_at, vu_ne, h30, hV, V36, V30, show ¬ n ≤ s by omega, q239_88 k h.ci, q239_93 kl, q239_199 kd, b2i_eq0, y1, y2, WPo_some, List.getElem?_cons_succ, List.getElem?_cons_zero, kil_n, kil_i, kil_a, kil_u, kil_l, Option.toList_some, Option.toList_none, List.cons_append, List.nil_append, List.set_cons_succ, List.set_cons_zero, addm1, Nat.reduceAdd, List.length_cons, List.length_nil, Nat.reduceLT, nI_clamp, nI_toInt, nI_leL, nI_Lle, nI_ltL, nI_Llt, nI_eqL, nI_Leq, nI_leE, nI_ltE, nI_eqE, nI_eqM, nI_add, nI_addL, nI_Ladd, nI_mulL, nI_Lmul, pk_mul, pk_sub, nI_subL, nI_Lsub, i2l_nI, Int.toNat_natCast, Nat.not_lt_zero, Nat.zero_le, ifT, ifF, not_true_eq_false, not_false_eq_true, if_true, if_false, or_self, and_self, true_and, and_true, or_true, true_or, false_or, or_false, false_and, and_false]
              refine ⟨rfl, _, rfl, ⟨?_, ?_, fun z => ?_, ?_, ?_, ?_, ?_⟩, fun q hq => ?_⟩
              · simp (disch := first | assumption | omega | decide | (simp only [List.length_cons, List.length_nil, Nat.reduceAdd, Nat.reduceLT]; done) | fail) only [vu_ne, V30]
              · simp (disch := first | assumption | omega | decide | (simp only [List.length_cons, List.length_nil, Nat.reduceAdd, Nat.reduceLT]; done) | fail) only [vu_ne, V33]
              · simp (disch := first | assumption | omega | decide | (simp only [List.length_cons, List.length_nil, Nat.reduceAdd, Nat.reduceLT]; done) | fail) only [vu_ne, V34 z]
              · dsimp only; simp (disch := first | assumption | omega | decide | (simp only [List.length_cons, List.length_nil, Nat.reduceAdd, Nat.reduceLT]; done) | fail) only [vu_ne, vu_at, V36, V37]; rw [eT3]; rfl
              · dsimp only; simp (disch := first | assumption | omega | decide | (simp only [List.length_cons, List.length_nil, Nat.reduceAdd, Nat.reduceLT]; done) | fail) only [vu_ne, vu_at, V36, V37]; rfl
              · dsimp only; simp (disch := first | assumption | omega | decide | (simp only [List.length_cons, List.length_nil, Nat.reduceAdd, Nat.reduceLT]; done) | fail) only [vu_ne, vu_at, V36, V37]; rw [eE]
              · dsimp only; rw [eT3]; exact ⟨fun z => absurd z (by decide), fun z => absurd z (by decide), fun z => absurd z (by decide), fun _ => by simp (disch := first | assumption | omega | decide | (simp only [List.length_cons, List.length_nil, Nat.reduceAdd, Nat.reduceLT]; done) | fail) only [vu_ne, vu_at, V36, V37]; rfl⟩
              · simp (disch := first | assumption | omega | decide | (simp only [List.length_cons, List.length_nil, Nat.reduceAdd, Nat.reduceLT]; done) | fail) only [vu_ne, Vn]
            · have eT5 : nxT T n p = 5 := by
                rw [eT]
                unfold clB at y1 y2 ⊢
                split at y1
                · exact absurd rfl y1
                · next q1 =>
                  rw [if_neg q1] at y2 ⊢
                  split at y2
                  · exact absurd rfl y2
                  · next q2 => rw [if_neg q2, if_neg w3, if_neg w4]
              simp (disch := first | assumption | omega | decide | (simp only [List.length_cons, List.length_nil, Nat.reduceAdd, Nat.reduceLT]; done) | fail) only [r239_58, r239_59, r239_60, r239_63, r239_66, r239_67, r239_70, r239_71, r239_74, r239_77, r239_78, r239_79, r239_82, r239_83, r239_84, r239_85, r239_91, r239_92, r239_96, r239_198, r239_202, r239_303, r239_304, r239_305, r239_308, r239_309, r239_310, r239_313, r239_314, r239_315, r239_316, r239_319, r239_320, r239_321, r239_323, r239_326, r239_327, r239_329, r239_332, r239_333, r239_336, r239_337, r239_340, mh_o h, mh_put h, gm_36, gm_30, pm_37, pm_35, pm_40, vu_at, vu_ne, h30, hV, V36, V30, show ¬ n ≤ s by omega, q239_88 k h.ci, q239_93 kl, q239_199 kd, b2i_eq0, y1, y2, w3, w4, WPo_some, List.getElem?_cons_succ, List.getElem?_cons_zero, kil_n, kil_i, kil_a, kil_u, kil_l, Option.toList_some, Option.toList_none, List.cons_append, List.nil_append, List.set_cons_succ, List.set_cons_zero, addm1, Nat.reduceAdd, List.length_cons, List.length_nil, Nat.reduceLT, nI_clamp, nI_toInt, nI_leL, nI_Lle, nI_ltL, nI_Llt, nI_eqL, nI_Leq, nI_leE, nI_ltE, nI_eqE, nI_eqM, nI_add, nI_addL, nI_Ladd, nI_mulL, nI_Lmul, pk_mul, pk_sub, nI_subL, nI_Lsub, i2l_nI, Int.toNat_natCast, Nat.not_lt_zero, Nat.zero_le, ifT, ifF, not_true_eq_false, not_false_eq_true, if_true, if_false, or_self, and_self, true_and, and_true, or_true, true_or, false_or, or_false, false_and, and_false]
              refine ⟨rfl, _, rfl, ⟨?_, ?_, fun z => ?_, ?_, ?_, ?_, ?_⟩, fun q hq => ?_⟩
              · simp (disch := first | assumption | omega | decide | (simp only [List.length_cons, List.length_nil, Nat.reduceAdd, Nat.reduceLT]; done) | fail) only [vu_ne, V30]
              · simp (disch := first | assumption | omega | decide | (simp only [List.length_cons, List.length_nil, Nat.reduceAdd, Nat.reduceLT]; done) | fail) only [vu_ne, V33]
              · simp (disch := first | assumption | omega | decide | (simp only [List.length_cons, List.length_nil, Nat.reduceAdd, Nat.reduceLT]; done) | fail) only [vu_ne, V34 z]
              · dsimp only; simp (disch := first | assumption | omega | decide | (simp only [List.length_cons, List.length_nil, Nat.reduceAdd, Nat.reduceLT]; done) | fail) only [vu_ne, vu_at, V36, V37]; rw [eT5]; rfl
              · dsimp only; simp (disch := first | assumption | omega | decide | (simp only [List.length_cons, List.length_nil, Nat.reduceAdd, Nat.reduceLT]; done) | fail) only [vu_ne, vu_at, V36, V37]; rfl
              · dsimp only; simp (disch := first | assumption | omega | decide | (simp only [List.length_cons, List.length_nil, Nat.reduceAdd, Nat.reduceLT]; done) | fail) only [vu_ne, vu_at, V36, V37]; rw [eE]
              · dsimp only; rw [eT5]; exact ⟨fun z => absurd z (by decide), fun z => absurd z (by decide), fun z => absurd z (by decide), fun z => absurd z (by decide)⟩
              · simp (disch := first | assumption | omega | decide | (simp only [List.length_cons, List.length_nil, Nat.reduceAdd, Nat.reduceLT]; done) | fail) only [vu_ne, Vn]
  obtain ⟨r1, x1, ⟨e1, v', e2, e3, e4⟩, w⟩ := WP.ex main
  subst e1 e2
  refine ⟨v', e239 ?_, e3, e4⟩
  simp (disch := first | assumption | omega | decide | (simp only [List.length_cons, List.length_nil, Nat.reduceAdd, Nat.reduceLT]; done) | fail) only [r239_0, r239_1, r239_2, r239_5, mh_o h, mh_put h, gm_37, pm_36, h37, WPo_some, List.getElem?_cons_succ, List.getElem?_cons_zero, kil_n, kil_i, kil_a, kil_u, kil_l, Option.toList_some, Option.toList_none, List.cons_append, List.nil_append, List.set_cons_succ, List.set_cons_zero, addm1, Nat.reduceAdd, List.length_cons, List.length_nil, Nat.reduceLT]
  exact w
end MNX

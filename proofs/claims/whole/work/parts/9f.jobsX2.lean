/-! Jobs of the class: assigning -/
section JA
variable {E : aEnv} {c : Nat} {ah : aHp} {A : Nat → Nat} {S : Nat → aE} {b : Int32} {en : Nat} {ax wh : Nat → Nat} {rx : Nat → Nat → Nat} {fg : Nat → Nat → Nat → Nat} {tu ms : Nat → Nat} {mq : Nat → Nat → Nat → Nat} {jn : Nat} {ja jw jt : Nat → Nat}
noncomputable def fitJ (ax wh ja jw : Nat → Nat) (i j : Nat) : Bool := decide (ja j ≤ ax i ∧ jw j ≤ wh i)
/-- the jobs' rows -/
noncomputable def jR (ji : Nat → Nat → Int32) (jn : Nat) (ja jw jt : Nat → Nat) : Prop := jn ≤ 7 ∧ ∀ j, j < jn → (ji 1 j = nI (ja j) ∧ ji 2 j = nI (jw j) ∧ ji 3 j = nI (jt j)) ∧ ja j ≤ 7 ∧ jw j ≤ 12 ∧ jt j ≤ 1000
theorem x96_36 (hO : XO E ah A) {ls : aLs} {n l b : Int32} {ji : Nat → Nat → Int32} {Q : Option Value → aHp → Prop} : WP E (c + 1) 96 36 ls [.int 7, .int 0, .ref (A 59), .int 0, .ref (A 58)] (oh E ah A (jS A S n l b ji)) Q = WP E (c + 1) 96 39 ls [] (oh E ah A (jS A S n l b (iu ji 5 (va_cpy (ji 4) (ji 5) 0 0 7)))) Q := by
  have hx0 : cY E (oh E ah A (jS A S n l b ji)) [.int 7, .int 0, .ref (A 59), .int 0, .ref (A 58)] = some ([], oh E ah A (jS A S n l b (iu ji 5 (va_cpy (ji 4) (ji 5) 0 0 7)))) := by
    unfold cY
    simp only [gj_4 hO, gj_5 hO, sj_5 hO, show ¬ (0 : Int32) < 0 by decide, show ¬ (7 : Int32) < 0 by decide, show (0 : Int32).toNatClampNeg = 0 by decide, show (7 : Int32).toNatClampNeg = 7 by decide, show ¬ 7 < 0 + 7 by decide, not_true_eq_false, not_false_eq_true, if_true, if_false, or_self, and_self, true_and, and_true, or_true, true_or, false_or, or_false, false_and, and_false]
  have hx : xtA E (.ldc_w 2) [.int 7, .int 0, .ref (A 59), .int 0, .ref (A 58)] (oh E ah A (jS A S n l b ji)) = some ([], oh E ah A (jS A S n l b (iu ji 5 (va_cpy (ji 4) (ji 5) 0 0 7)))) := by
    unfold xtA
    exact hx0
  exact wp_xt (q := ([], oh E ah A (jS A S n l b (iu ji 5 (va_cpy (ji 4) (ji 5) 0 0 7))))) i96_36 rfl rfl hx (by show 1 ≤ c + 1; omega) wds_nil
theorem cpy_7i {f g : Nat → Int32} {y : Nat} (hy : y < 7) : va_cpy f g 0 0 7 y = f y := by
  simp [va_cpy, hy]
/-- an assigning: rows ahead and behind -/
noncomputable def aR (ji : Nat → Nat → Int32) (jn ja' : Nat) (en j : Nat) (s L : Nat → Nat) (cc : Nat → Nat) : Prop := (∀ q, q < j → ji 4 q = nI (s q)) ∧ (∀ q, q < jn → ji 5 q = nI (cc q)) ∧ ∀ i, i < en → ji 6 i = nI (L i) ∧ L i ≤ 1000 * j
theorem jR_fr {ji ji' : Nat → Nat → Int32} (h : jR ji jn ja jw jt) (hk : ∀ k, k = 1 ∨ k = 2 ∨ k = 3 → ji' k = ji k) : jR ji' jn ja jw jt := by
  unfold jR
  rw [hk 1 (by omega), hk 2 (by omega), hk 3 (by omega)]
  exact h
theorem mx_nI {g x : Nat} : (if g < x then nI x else nI g) = nI (max g x) := by
  by_cases z : g < x
  · rw [if_pos z, Nat.max_eq_right (by omega)]
  · rw [if_neg z, Nat.max_eq_left (by omega)]
theorem fo_le {f : Nat × (Nat → Nat) → Nat → Nat × (Nat → Nat)} (h : ∀ c k, (f c k).1 ≤ c.1) : ∀ z i c, (fo f z i c).1 ≤ c.1
  | 0, _, _ => Nat.le_refl _
  | z + 1, i, c => Nat.le_trans (fo_le h z (i + 1) _) (h c i)
theorem asg_le {fit : Nat → Nat → Bool} {t : Nat → Nat} : ∀ m j s L g (cur : Nat × (Nat → Nat)), (asg en fit t m j s L g cur).1 ≤ cur.1
  | 0, j, s, L, g, cur => by
    rw [asg]
    split
    · next z => exact Nat.le_of_lt z
    · exact Nat.le_refl _
  | m + 1, j, s, L, g, cur => by
    rw [asg]
    refine fo_le (fun c k => ?_) en 0 cur
    split
    · exact asg_le m _ _ _ _ _
    · exact Nat.le_refl _
/-- what a call of the assigning does, with m jobs to go -/
noncomputable def CA (E : aEnv) (c : Nat) (ah : aHp) (A : Nat → Nat) (S : Nat → aE) (b : Int32) (en : Nat) (ax wh : Nat → Nat) (jn : Nat) (ja jw jt : Nat → Nat) (m : Nat) : Prop := ∀ j s L g (cur : Nat × (Nat → Nat)) ji, jR ji jn ja jw jt → m + j = jn → g ≤ 1000 * j → cur.1 ≤ 1000000 → aR ji jn 0 en j s L cur.2 → ∃ ji', (∀ k, ¬ (k = 4 ∨ k = 5) → ji' k = ji k) ∧ aR ji' jn 0 en j s L (asg en (fitJ ax wh ja jw) jt m j s L g cur).2 ∧ EV E (c + 1 + m) 96 [.ref (A 54), .ref (A 2), .int (nI en), .int (nI j), .int (nI g)] (oh E ah A (jS A S (nI jn) (nI cur.1) b ji)) none (oh E ah A (jS A S (nI jn) (nI (asg en (fitJ ax wh ja jw) jt m j s L g cur).1) b ji'))
theorem l_asI (hN : XN E ah A en) (h : enS A S en ax wh rx fg tu ms mq) {m : Nat} (IH : CA E c ah A S b en ax wh jn ja jw jt m) {j g : Nat} {s L : Nat → Nat} (hm : m + 1 + j = jn) (hgj : g ≤ 1000 * j) : ∀ z i (cur : Nat × (Nat → Nat)) ji, i + z = en → jR ji jn ja jw jt → cur.1 ≤ 1000000 → aR ji jn 0 en j s L cur.2 → ∃ ji', (∀ k, ¬ (k = 4 ∨ k = 5) → ji' k = ji k) ∧ aR ji' jn 0 en j s L (fo (fun cur i => if fitJ ax wh ja jw i j then asg en (fitJ ax wh ja jw) jt m (j + 1) (fnu s j i) (fnu L i (L i + jt j)) (max g (L i + jt j)) cur else cur) z i cur).2 ∧ ∀ l6, WP E (c + 1 + m + 1) 96 43 [some (.ref (A 54)), some (.ref (A 2)), some (.int (nI en)), some (.int (nI j)), some (.int (nI g)), some (.int (nI i)), l6] [] (oh E ah A (jS A S (nI jn) (nI cur.1) b ji)) (fun r1 x1 => r1 = none ∧ x1 = oh E ah A (jS A S (nI jn) (nI (fo (fun cur i => if fitJ ax wh ja jw i j then asg en (fitJ ax wh ja jw) jt m (j + 1) (fnu s j i) (fnu L i (L i + jt j)) (max g (L i + jt j)) cur else cur) z i cur).1) b ji'))
  | 0, i, cur, ji, hz, hj, hc, ha => by
    have h4 := h.1
    refine ⟨ji, fun _ _ => rfl, ha, fun l6 => ?_⟩
    rw [show i = en by omega, r96_43]
    simp (disch := first | assumption | omega | decide | (simp only [List.length_cons, List.length_nil, Nat.reduceAdd, Nat.reduceLT]; done) | fail) only [r96_45, r96_46, r96_155, oGF_is, WPo_some, List.getElem?_cons_succ, List.getElem?_cons_zero, kil_n, kil_i, kil_a, kil_u, kil_l, Option.toList_some, Option.toList_none, List.cons_append, List.nil_append, List.set_cons_succ, List.set_cons_zero, addm1, Nat.reduceAdd, List.length_cons, List.length_nil, Nat.reduceLT, nI_clamp, nI_toInt, nI_leL, nI_Lle, nI_ltL, nI_Llt, nI_eqL, nI_Leq, nI_leE, nI_ltE, nI_eqE, nI_eqM, nI_add, nI_addL, nI_Ladd, nI_mulL, nI_Lmul, pk_mul, pk_sub, nI_subL, nI_Lsub, i2l_nI, Int.toNat_natCast, Nat.not_lt_zero, Nat.zero_le, ifT, ifF, not_true_eq_false, not_false_eq_true, if_true, if_false, or_self, and_self, true_and, and_true, or_true, true_or, false_or, or_false, false_and, and_false]
    exact rfl
  | z + 1, i, cur, ji, hz, hj, hc, ha => by
    have h4 := h.1
    have hO := hN.O
    have hi : i < en := by omega
    have h7 := hj.1
    obtain ⟨⟨j1, j2, j3⟩, j4, j5, j6⟩ := hj.2 j (by omega)
    obtain ⟨a1, a2, a3⟩ := ha
    obtain ⟨a4, a5⟩ := a3 i hi
    obtain ⟨_, ei, el, hgr, hq⟩ := h.2.2 i hi
    have g0 := hgr.1
    have p0 := fun n l b ji => p_0 (S := jS A S n l b ji) (eSt_id (fun q hq' => by rw [jS_o (by omega)]; exact hq q hq')) (hN.B hi)
    have hrow : ∀ n l b ji, hg E (oh E ah A (jS A S n l b ji)) (A 2) = some (.inl (5, 4, .inr (.inr (.inr (.inr (fun i => if i < en then some (A (81 + 11 * i)) else none)))))) := fun n l b ji => (hx_2 hO).trans (by rw [jS_o (by omega), h.2.1])
    have gA1 : ∀ n l b ji st, gA E (oh E ah A (jS A S n l b ji)) (.int (nI i) :: .ref (A 2) :: st) = some (.ref (A (81 + 11 * i)) :: st) := fun n l b ji st => by
      rw [gA_at (hrow n l b ji) (by decide) (by decide) (vp_in_nI (show i < 4 by omega) (by omega)), nI_clamp (by omega), if_pos hi]
      rfl
    by_cases hf : fitJ ax wh ja jw i j = true
    · have hf' : ja j ≤ ax i ∧ jw j ≤ wh i := of_decide_eq_true hf
      have hj2 : jR (iu (iu ji 4 (upd (ji 4) j (nI i))) 6 (upd (ji 6) i (nI (L i + jt j)))) jn ja jw jt := jR_fr hj (fun k hk => by rw [iu_ne (by omega), iu_ne (by omega)])
      obtain ⟨ji2, b1, b2, b3⟩ := IH (j + 1) (fnu s j i) (fnu L i (L i + jt j)) (max g (L i + jt j)) cur (iu (iu ji 4 (upd (ji 4) j (nI i))) 6 (upd (ji 6) i (nI (L i + jt j)))) hj2 (by omega) (by omega) hc ⟨fun q hq => by
        rw [iu_ne (by decide), iu_at]
        unfold upd fnu
        by_cases y : q = j
        · rw [if_pos y, if_pos y]
        · rw [if_neg y, if_neg y]
          exact a1 q (by omega), fun q hq => by rw [iu_ne (by decide), iu_ne (by decide)]; exact a2 q hq, fun k hk => by
        rw [iu_at]
        unfold upd fnu
        by_cases y : k = i
        · rw [if_pos y, if_pos y]
          exact ⟨rfl, by omega⟩
        · rw [if_neg y, if_neg y]
          have := a3 k hk
          exact ⟨this.1, by omega⟩⟩
      have b6 : ji2 6 = upd (ji 6) i (nI (L i + jt j)) := by rw [b1 6 (by omega), iu_at]
      have b7 : upd (ji2 6) i (nI (L i)) = ji 6 := by rw [b6, upd_upd, ← a4, upd_self]
      have bk : ∀ k, k = 1 ∨ k = 2 ∨ k = 3 → ji2 k = ji k := fun k hk => by rw [b1 k (by omega), iu_ne (by omega), iu_ne (by omega)]
      obtain ⟨ji3, c1, c2, c3⟩ := l_asI hN h IH hm hgj (s := s) (L := L) z (i + 1) (asg en (fitJ ax wh ja jw) jt m (j + 1) (fnu s j i) (fnu L i (L i + jt j)) (max g (L i + jt j)) cur) (iu ji2 6 (ji 6)) (by omega) (jR_fr hj (fun k hk => by rw [iu_ne (by omega)]; exact bk k hk)) (Nat.le_trans (asg_le _ _ _ _ _ _) hc) ⟨fun q hq => by
        rw [iu_ne (by decide), b2.1 q (by omega)]
        unfold fnu
        rw [if_neg (by omega)], fun q hq => by rw [iu_ne (by decide)]; exact b2.2.1 q hq, fun k hk => by rw [iu_at]; exact a3 k hk⟩
      refine ⟨ji3, fun k hk => ?_, by rw [fo, if_pos hf]; exact c2, fun l6 => ?_⟩
      · rw [c1 k hk]
        by_cases y : k = 6
        · rw [y, iu_at]
        · rw [iu_ne y, b1 k hk, iu_ne y, iu_ne (by omega)]
      · have c4 := c3 (some (.ref (A (81 + 11 * i))))
        rw [fo, if_pos hf, r96_43]
        have e3 : ji2 3 j = nI (jt j) := by rw [bk 3 (by omega)]; exact j3
        have e6 : ji2 6 i = nI (L i + jt j) := by rw [b6, upd_at]
        simp (disch := first | assumption | omega | decide | (simp only [List.length_cons, List.length_nil, Nat.reduceAdd, Nat.reduceLT]; done) | fail) only [r96_45, r96_46, r96_49, r96_49n, r96_50, r96_52, r96_53, r96_53n, r96_55, r96_55n, r96_57, r96_57n, r96_60, r96_60n, r96_62, r96_65, r96_65n, r96_66, r96_69, r96_70, r96_71, r96_74, r96_74n, r96_76, r96_79, r96_79n, r96_80, r96_83, r96_84, r96_85, r96_88, r96_88n, r96_89, r96_92, r96_93, r96_95, r96_96, r96_96n, r96_97, r96_100, r96_102, r96_102l, r96_103, r96_104, r96_104n, r96_105, r96_108, r96_109, r96_110, r96_111, r96_112, r96_112n, r96_113, r96_113n, r96_114, r96_115, r96_116, r96_117, r96_118, r96_120, r96_120n, r96_121, r96_124, r96_126, q96_127 c_max, q96_130 b3, gA1, p0, gj_0 hO, gj_1 hO, gj_2 hO, gj_3 hO, gj_4 hO, gj_6 hO, sj_4 hO, sj_6 hO, gI, pI, iu_at, iu_ne, upd_at, j1, j2, j3, a4, hf'.1, hf'.2, mx_nI, oGF_is, WPo_some, List.getElem?_cons_succ, List.getElem?_cons_zero, kil_n, kil_i, kil_a, kil_u, kil_l, Option.toList_some, Option.toList_none, List.cons_append, List.nil_append, List.set_cons_succ, List.set_cons_zero, addm1, Nat.reduceAdd, List.length_cons, List.length_nil, Nat.reduceLT, nI_clamp, nI_toInt, nI_leL, nI_Lle, nI_ltL, nI_Llt, nI_eqL, nI_Leq, nI_leE, nI_ltE, nI_eqE, nI_eqM, nI_add, nI_addL, nI_Ladd, nI_mulL, nI_Lmul, pk_mul, pk_sub, nI_subL, nI_Lsub, i2l_nI, Int.toNat_natCast, Nat.not_lt_zero, Nat.zero_le, ifT, ifF, not_true_eq_false, not_false_eq_true, if_true, if_false, or_self, and_self, true_and, and_true, or_true, true_or, false_or, or_false, false_and, and_false, r96_133, r96_133n, r96_134, r96_137, r96_139, r96_139l, r96_140, r96_141, r96_141n, r96_142, r96_145, r96_146, r96_147, r96_148, r96_149, r96_152, e3, e6, b7, Nat.add_sub_cancel]
        exact c4
    · have hf' : ¬ (ja j ≤ ax i ∧ jw j ≤ wh i) := fun y => hf (decide_eq_true y)
      obtain ⟨ji3, c1, c2, c3⟩ := l_asI hN h IH hm hgj (s := s) (L := L) z (i + 1) cur ji (by omega) hj hc ⟨a1, a2, a3⟩
      refine ⟨ji3, c1, by rw [fo, if_neg hf]; exact c2, fun l6 => ?_⟩
      have c4 := c3 (some (.ref (A (81 + 11 * i))))
      rw [fo, if_neg hf, r96_43]
      by_cases z1 : ja j ≤ ax i
      · have z2 : ¬ jw j ≤ wh i := fun y => hf' ⟨z1, y⟩
        simp (disch := first | assumption | omega | decide | (simp only [List.length_cons, List.length_nil, Nat.reduceAdd, Nat.reduceLT]; done) | fail) only [r96_45, r96_46, r96_49, r96_49n, r96_50, r96_52, r96_53, r96_53n, r96_55, r96_55n, r96_57, r96_57n, r96_60, r96_60n, r96_62, r96_65, r96_65n, r96_66, r96_69, r96_70, r96_71, r96_74, r96_74n, r96_76, r96_79, r96_79n, r96_80, r96_83, r96_84, r96_85, gA1, p0, gj_0 hO, gj_1 hO, gj_2 hO, gI, j1, j2, z1, z2, oGF_is, WPo_some, List.getElem?_cons_succ, List.getElem?_cons_zero, kil_n, kil_i, kil_a, kil_u, kil_l, Option.toList_some, Option.toList_none, List.cons_append, List.nil_append, List.set_cons_succ, List.set_cons_zero, addm1, Nat.reduceAdd, List.length_cons, List.length_nil, Nat.reduceLT, nI_clamp, nI_toInt, nI_leL, nI_Lle, nI_ltL, nI_Llt, nI_eqL, nI_Leq, nI_leE, nI_ltE, nI_eqE, nI_eqM, nI_add, nI_addL, nI_Ladd, nI_mulL, nI_Lmul, pk_mul, pk_sub, nI_subL, nI_Lsub, i2l_nI, Int.toNat_natCast, Nat.not_lt_zero, Nat.zero_le, ifT, ifF, not_true_eq_false, not_false_eq_true, if_true, if_false, or_self, and_self, true_and, and_true, or_true, true_or, false_or, or_false, false_and, and_false, r96_149, r96_152]
        exact c4
      · simp (disch := first | assumption | omega | decide | (simp only [List.length_cons, List.length_nil, Nat.reduceAdd, Nat.reduceLT]; done) | fail) only [r96_45, r96_46, r96_49, r96_49n, r96_50, r96_52, r96_53, r96_53n, r96_55, r96_55n, r96_57, r96_57n, r96_60, r96_60n, r96_62, r96_65, r96_65n, r96_66, r96_69, r96_70, r96_71, r96_74, r96_74n, r96_76, r96_79, r96_79n, r96_80, r96_83, r96_84, r96_85, gA1, p0, gj_0 hO, gj_1 hO, gj_2 hO, gI, j1, j2, z1, oGF_is, WPo_some, List.getElem?_cons_succ, List.getElem?_cons_zero, kil_n, kil_i, kil_a, kil_u, kil_l, Option.toList_some, Option.toList_none, List.cons_append, List.nil_append, List.set_cons_succ, List.set_cons_zero, addm1, Nat.reduceAdd, List.length_cons, List.length_nil, Nat.reduceLT, nI_clamp, nI_toInt, nI_leL, nI_Lle, nI_ltL, nI_Llt, nI_eqL, nI_Leq, nI_leE, nI_ltE, nI_eqE, nI_eqM, nI_add, nI_addL, nI_Ladd, nI_mulL, nI_Lmul, pk_mul, pk_sub, nI_subL, nI_Lsub, i2l_nI, Int.toNat_natCast, Nat.not_lt_zero, Nat.zero_le, ifT, ifF, not_true_eq_false, not_false_eq_true, if_true, if_false, or_self, and_self, true_and, and_true, or_true, true_or, false_or, or_false, false_and, and_false, r96_149, r96_152]
        exact c4
theorem c_asg (hN : XN E ah A en) (h : enS A S en ax wh rx fg tu ms mq) : ∀ m, CA E c ah A S b en ax wh jn ja jw jt m
  | 0 => by
    intro j s L g cur ji hj hm hgj hc ha
    have hO := hN.O
    have h7 := hj.1
    have ej : ((j : Nat) : Int) = jn := by omega
    by_cases z : g < cur.1
    · have e1 : asg en (fitJ ax wh ja jw) jt 0 j s L g cur = (g, s) := if_pos z
      refine ⟨iu ji 5 (va_cpy (ji 4) (ji 5) 0 0 7), fun k hk => iu_ne (by omega), ⟨fun q hq => by rw [iu_ne (by decide)]; exact ha.1 q hq, fun q hq => by rw [iu_at, cpy_7i (by omega), e1]; exact ha.1 q (by omega), fun i hi => by rw [iu_ne (by decide)]; exact ha.2.2 i hi⟩, e96 ?_⟩
      rw [e1]
      simp (disch := first | assumption | omega | decide | (simp only [List.length_cons, List.length_nil, Nat.reduceAdd, Nat.reduceLT]; done) | fail) only [r96_0, r96_2, r96_2n, r96_3, r96_6, r96_9, r96_10, r96_10n, r96_11, r96_15, r96_18, r96_18n, r96_19, r96_21, r96_24, r96_24n, r96_25, r96_28, r96_29, r96_29n, r96_30, r96_33, r96_34, q96_12 (c_jHas hO h7) (j_ci hO), x96_36 hO, r96_39, gj_0 hO, sj_0 hO, pf_6070, b2i_eq0, nI_toInt, show ¬ (0 ≤ (j : Int) ∧ (j : Int) < (jn : Int)) by omega, oGF_is, WPo_some, List.getElem?_cons_succ, List.getElem?_cons_zero, kil_n, kil_i, kil_a, kil_u, kil_l, Option.toList_some, Option.toList_none, List.cons_append, List.nil_append, List.set_cons_succ, List.set_cons_zero, addm1, Nat.reduceAdd, List.length_cons, List.length_nil, Nat.reduceLT, nI_clamp, nI_toInt, nI_leL, nI_Lle, nI_ltL, nI_Llt, nI_eqL, nI_Leq, nI_leE, nI_ltE, nI_eqE, nI_eqM, nI_add, nI_addL, nI_Ladd, nI_mulL, nI_Lmul, pk_mul, pk_sub, nI_subL, nI_Lsub, i2l_nI, Int.toNat_natCast, Nat.not_lt_zero, Nat.zero_le, ifT, ifF, not_true_eq_false, not_false_eq_true, if_true, if_false, or_self, and_self, true_and, and_true, or_true, true_or, false_or, or_false, false_and, and_false]
    · have e1 : asg en (fitJ ax wh ja jw) jt 0 j s L g cur = cur := if_neg z
      refine ⟨ji, fun k hk => rfl, by rw [e1]; exact ha, e96 ?_⟩
      rw [e1]
      simp (disch := first | assumption | omega | decide | (simp only [List.length_cons, List.length_nil, Nat.reduceAdd, Nat.reduceLT]; done) | fail) only [r96_0, r96_2, r96_2n, r96_3, r96_6, r96_9, gj_0 hO, oGF_is, WPo_some, List.getElem?_cons_succ, List.getElem?_cons_zero, kil_n, kil_i, kil_a, kil_u, kil_l, Option.toList_some, Option.toList_none, List.cons_append, List.nil_append, List.set_cons_succ, List.set_cons_zero, addm1, Nat.reduceAdd, List.length_cons, List.length_nil, Nat.reduceLT, nI_clamp, nI_toInt, nI_leL, nI_Lle, nI_ltL, nI_Llt, nI_eqL, nI_Leq, nI_leE, nI_ltE, nI_eqE, nI_eqM, nI_add, nI_addL, nI_Ladd, nI_mulL, nI_Lmul, pk_mul, pk_sub, nI_subL, nI_Lsub, i2l_nI, Int.toNat_natCast, Nat.not_lt_zero, Nat.zero_le, ifT, ifF, not_true_eq_false, not_false_eq_true, if_true, if_false, or_self, and_self, true_and, and_true, or_true, true_or, false_or, or_false, false_and, and_false]
  | m + 1 => by
    intro j s L g cur ji hj hm hgj hc ha
    have hO := hN.O
    have h7 := hj.1
    have h4 := h.1
    by_cases z : g < cur.1
    · obtain ⟨ji', b1, b2, b3⟩ := l_asI hN h (c_asg hN h m) (s := s) (L := L) hm hgj en 0 cur ji (by omega) hj hc ha
      refine ⟨ji', b1, b2, ?_⟩
      show EV E (c + 1 + m + 1) 96 _ _ _ _
      refine e96 ?_
      have b4 := b3 none
      simp (disch := first | assumption | omega | decide | (simp only [List.length_cons, List.length_nil, Nat.reduceAdd, Nat.reduceLT]; done) | fail) only [r96_0, r96_2, r96_2n, r96_3, r96_6, r96_9, r96_10, r96_10n, r96_11, r96_15, q96_12 (c_jHas hO h7) (j_ci hO), gj_0 hO, b2i_eq0, nI_toInt, show 0 ≤ (j : Int) ∧ (j : Int) < (jn : Int) by omega, oGF_is, WPo_some, List.getElem?_cons_succ, List.getElem?_cons_zero, kil_n, kil_i, kil_a, kil_u, kil_l, Option.toList_some, Option.toList_none, List.cons_append, List.nil_append, List.set_cons_succ, List.set_cons_zero, addm1, Nat.reduceAdd, List.length_cons, List.length_nil, Nat.reduceLT, nI_clamp, nI_toInt, nI_leL, nI_Lle, nI_ltL, nI_Llt, nI_eqL, nI_Leq, nI_leE, nI_ltE, nI_eqE, nI_eqM, nI_add, nI_addL, nI_Ladd, nI_mulL, nI_Lmul, pk_mul, pk_sub, nI_subL, nI_Lsub, i2l_nI, Int.toNat_natCast, Nat.not_lt_zero, Nat.zero_le, ifT, ifF, not_true_eq_false, not_false_eq_true, if_true, if_false, or_self, and_self, true_and, and_true, or_true, true_or, false_or, or_false, false_and, and_false, r96_40, r96_41]
      exact b4
    · have e1 := asg_pr (en := en) (fit := fitJ ax wh ja jw) (t := jt) (m + 1) j s L g cur (by omega)
      refine ⟨ji, fun k hk => rfl, by rw [e1]; exact ha, e96 ?_⟩
      rw [e1]
      simp (disch := first | assumption | omega | decide | (simp only [List.length_cons, List.length_nil, Nat.reduceAdd, Nat.reduceLT]; done) | fail) only [r96_0, r96_2, r96_2n, r96_3, r96_6, r96_9, gj_0 hO, oGF_is, WPo_some, List.getElem?_cons_succ, List.getElem?_cons_zero, kil_n, kil_i, kil_a, kil_u, kil_l, Option.toList_some, Option.toList_none, List.cons_append, List.nil_append, List.set_cons_succ, List.set_cons_zero, addm1, Nat.reduceAdd, List.length_cons, List.length_nil, Nat.reduceLT, nI_clamp, nI_toInt, nI_leL, nI_Lle, nI_ltL, nI_Llt, nI_eqL, nI_Leq, nI_leE, nI_ltE, nI_eqE, nI_eqM, nI_add, nI_addL, nI_Ladd, nI_mulL, nI_Lmul, pk_mul, pk_sub, nI_subL, nI_Lsub, i2l_nI, Int.toNat_natCast, Nat.not_lt_zero, Nat.zero_le, ifT, ifF, not_true_eq_false, not_false_eq_true, if_true, if_false, or_self, and_self, true_and, and_true, or_true, true_or, false_or, or_false, false_and, and_false]
end JA

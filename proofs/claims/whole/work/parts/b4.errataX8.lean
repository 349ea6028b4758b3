/-! Errata of the class: the least option, found -/
/-- r is the least of the options of v with G, or -1 if there is none -/
noncomputable def lst (v : Nat) (G : Int → Prop) (r : Int32) : Prop := (r = -1 ∧ ∀ x, opN v x → ¬ G x) ∨ (opN v r.toInt ∧ G r.toInt ∧ ∀ x, opN v x → G x → r.toInt ≤ x)
section EX8
variable {E : aEnv} {c : Nat} {ah : aHp} {A : Nat → Nat} {S : Nat → aE} {fn : Int32} {vl oc wi sh : Nat → Int32} {dl : Nat → Int64} {OP : Nat → Nat → Int32} {n k b : Nat} {V : Nat → Nat}
theorem i2l_iL (x : Int32) : x.toInt64 = iL x.toInt := by
  have := i32_rg x
  apply Int64.toInt_inj.mp
  rw [i2l_toInt, iL_toInt (by omega) (by omega)]
theorem l_ls2 (hO : XO E ah A) {i cc : Nat} (hi' : i < 20) (hv : vl i = nI (V i)) (hv2 : V i ≤ 99999999) (hcc : oc i = nI cc) (hc79 : cc ≤ 79) (hM : srS (fun q => (OP i q).toInt) cc (opN (V i))) {L H : Int} (hL : L.natAbs ≤ 1000000000000) (hH : H.natAbs ≤ 1000000000000) {mn od bd : Int32} {l2 : Option Value} {ch : Int64} : ∀ z o l6 l7, o + z = cc → (∀ q, q < o → (OP i q).toInt < V i + L) → ∃ r, WP E c 68 73 [some (.ref (A 19)), some (.int (nI i)), l2, some (.long ch), none, some (.int (nI o)), l6, l7] [] (oh E ah A (eS A S fn mn od bd (iL L) (iL H) vl oc wi sh dl OP)) (fun r1 x => r1 = some (.int r) ∧ x = oh E ah A (eS A S fn mn od bd (iL L) (iL H) vl oc wi sh dl OP)) ∧ lst (V i) (fun x => L ≤ x - V i ∧ x - V i ≤ H) r
  | 0, o, l6, l7, hz, hq => by
    rw [show o = cc by omega] at hq ⊢
    refine ⟨-1, ?_, Or.inl ⟨rfl, fun x hx hG => ?_⟩⟩
    · rw [r68_73]
      simp (disch := first | assumption | omega | decide | (simp only [List.length_cons, List.length_nil, Nat.reduceAdd, Nat.reduceLT]; done) | fail) only [r68_75, r68_76, r68_79, r68_80, r68_81, r68_146, r68_147, hr19 hO, hr43 hO, gI, hcc, oGF_is, WPo_some, List.getElem?_cons_succ, List.getElem?_cons_zero, kil_n, kil_i, kil_a, kil_u, kil_l, Option.toList_some, Option.toList_none, List.cons_append, List.nil_append, List.set_cons_succ, List.set_cons_zero, addm1, Nat.reduceAdd, List.length_cons, List.length_nil, Nat.reduceLT, nI_clamp, nI_toInt, nI_leL, nI_Lle, nI_ltL, nI_Llt, nI_eqL, nI_Leq, nI_leE, nI_ltE, nI_eqE, nI_eqM, nI_add, nI_addL, nI_Ladd, nI_mulL, nI_Lmul, pk_mul, pk_sub, nI_subL, nI_Lsub, i2l_nI, Int.toNat_natCast, Nat.not_lt_zero, Nat.zero_le, ifT, ifF, not_true_eq_false, not_false_eq_true, if_true, if_false, or_self, and_self, true_and, and_true, or_true, true_or, false_or, or_false, false_and, and_false]
    · obtain ⟨q, q1, q2⟩ := (hM.2 x).mp hx
      have q2 : (OP i q).toInt = x := q2
      have := hq q q1
      omega
  | z + 1, o, l6, l7, hz, hq => by
    have mem : opN (V i) (OP i o).toInt := (hM.2 _).mpr ⟨o, by omega, rfl⟩
    have rg := op_rg hv2 mem
    have eV : (nI (V i)).toInt64 = iL (V i) := iL_nI (by omega)
    have eO := i2l_iL (OP i o)
    have c1 : (iL (OP i o).toInt < iL ((V i : Int) + L)) = ((OP i o).toInt < (V i : Int) + L) := iL_lt (by omega) (by omega) (by omega) (by omega)
    have c2 : (iL ((V i : Int) + H) < iL (OP i o).toInt) = ((V i : Int) + H < (OP i o).toInt) := iL_lt (by omega) (by omega) (by omega) (by omega)
    by_cases y : (OP i o).toInt < (V i : Int) + L
    · obtain ⟨r, w, hr⟩ := l_ls2 hO hi' hv hv2 hcc hc79 hM hL hH (mn := mn) (od := od) (bd := bd) (l2 := l2) (ch := ch) z (o + 1) (some (.int (OP i o))) l7 (by omega) (fun q q1 => by
        by_cases z : q = o
        · rw [z]; exact y
        · exact hq q (by omega))
      refine ⟨r, ?_, hr⟩
      rw [r68_73]
      simp (disch := first | assumption | omega | decide | (simp only [List.length_cons, List.length_nil, Nat.reduceAdd, Nat.reduceLT]; done) | fail) only [r68_75, r68_76, r68_79, r68_80, r68_81, r68_84, r68_85, r68_88, r68_89, r68_90, r68_92, r68_93, r68_95, r68_97, r68_98, r68_99, r68_102, r68_103, r68_104, r68_105, r68_106, r68_109, r68_110, r68_111, r68_114, r68_116, r68_117, r68_118, r68_121, r68_122, r68_123, r68_124, r68_125, r68_128, r68_129, r68_130, r68_133, r68_135, r68_138, r68_139, r68_140, r68_143, hr19 hO, hr20 hO, hr23 hO hi', hr43 hO, gA_row hO hi', gI, hcc, hv, eV, eO, iL_add, lg_cmp_lt, lg_cmp_gt, c1, y, oGF_is, WPo_some, List.getElem?_cons_succ, List.getElem?_cons_zero, kil_n, kil_i, kil_a, kil_u, kil_l, Option.toList_some, Option.toList_none, List.cons_append, List.nil_append, List.set_cons_succ, List.set_cons_zero, addm1, Nat.reduceAdd, List.length_cons, List.length_nil, Nat.reduceLT, nI_clamp, nI_toInt, nI_leL, nI_Lle, nI_ltL, nI_Llt, nI_eqL, nI_Leq, nI_leE, nI_ltE, nI_eqE, nI_eqM, nI_add, nI_addL, nI_Ladd, nI_mulL, nI_Lmul, pk_mul, pk_sub, nI_subL, nI_Lsub, i2l_nI, Int.toNat_natCast, Nat.not_lt_zero, Nat.zero_le, ifT, ifF, not_true_eq_false, not_false_eq_true, if_true, if_false, or_self, and_self, true_and, and_true, or_true, true_or, false_or, or_false, false_and, and_false]
      exact w
    · by_cases y2 : (V i : Int) + H < (OP i o).toInt
      · refine ⟨-1, ?_, Or.inl ⟨rfl, fun x hx hG => ?_⟩⟩
        · rw [r68_73]
          simp (disch := first | assumption | omega | decide | (simp only [List.length_cons, List.length_nil, Nat.reduceAdd, Nat.reduceLT]; done) | fail) only [r68_75, r68_76, r68_79, r68_80, r68_81, r68_84, r68_85, r68_88, r68_89, r68_90, r68_92, r68_93, r68_95, r68_97, r68_98, r68_99, r68_102, r68_103, r68_104, r68_105, r68_106, r68_109, r68_110, r68_111, r68_114, r68_116, r68_117, r68_118, r68_121, r68_122, r68_123, r68_124, r68_125, r68_128, r68_129, r68_130, r68_133, r68_135, r68_138, r68_139, hr19 hO, hr20 hO, hr23 hO hi', hr43 hO, gA_row hO hi', gI, hcc, hv, eV, eO, iL_add, lg_cmp_lt, lg_cmp_gt, c1, c2, y, y2, oGF_is, WPo_some, List.getElem?_cons_succ, List.getElem?_cons_zero, kil_n, kil_i, kil_a, kil_u, kil_l, Option.toList_some, Option.toList_none, List.cons_append, List.nil_append, List.set_cons_succ, List.set_cons_zero, addm1, Nat.reduceAdd, List.length_cons, List.length_nil, Nat.reduceLT, nI_clamp, nI_toInt, nI_leL, nI_Lle, nI_ltL, nI_Llt, nI_eqL, nI_Leq, nI_leE, nI_ltE, nI_eqE, nI_eqM, nI_add, nI_addL, nI_Ladd, nI_mulL, nI_Lmul, pk_mul, pk_sub, nI_subL, nI_Lsub, i2l_nI, Int.toNat_natCast, Nat.not_lt_zero, Nat.zero_le, ifT, ifF, not_true_eq_false, not_false_eq_true, if_true, if_false, or_self, and_self, true_and, and_true, or_true, true_or, false_or, or_false, false_and, and_false]
        · obtain ⟨q, q1, q2⟩ := (hM.2 x).mp hx
          have q2 : (OP i q).toInt = x := q2
          by_cases w : q < o
          · have := hq q w
            omega
          · by_cases w2 : q = o
            · rw [w2] at q2; omega
            · have := hM.1 o q (by omega) q1
              have this : (OP i o).toInt ≤ (OP i q).toInt := this
              omega
      · refine ⟨OP i o, ?_, Or.inr ⟨mem, ⟨by omega, by omega⟩, fun x hx hG => ?_⟩⟩
        · rw [r68_73]
          simp (disch := first | assumption | omega | decide | (simp only [List.length_cons, List.length_nil, Nat.reduceAdd, Nat.reduceLT]; done) | fail) only [r68_75, r68_76, r68_79, r68_80, r68_81, r68_84, r68_85, r68_88, r68_89, r68_90, r68_92, r68_93, r68_95, r68_97, r68_98, r68_99, r68_102, r68_103, r68_104, r68_105, r68_106, r68_109, r68_110, r68_111, r68_114, r68_116, r68_117, r68_118, r68_121, r68_122, r68_123, r68_124, r68_125, r68_128, r68_129, r68_130, r68_133, r68_135, r68_138, r68_139, hr19 hO, hr20 hO, hr23 hO hi', hr43 hO, gA_row hO hi', gI, hcc, hv, eV, eO, iL_add, lg_cmp_lt, lg_cmp_gt, c1, c2, y, y2, oGF_is, WPo_some, List.getElem?_cons_succ, List.getElem?_cons_zero, kil_n, kil_i, kil_a, kil_u, kil_l, Option.toList_some, Option.toList_none, List.cons_append, List.nil_append, List.set_cons_succ, List.set_cons_zero, addm1, Nat.reduceAdd, List.length_cons, List.length_nil, Nat.reduceLT, nI_clamp, nI_toInt, nI_leL, nI_Lle, nI_ltL, nI_Llt, nI_eqL, nI_Leq, nI_leE, nI_ltE, nI_eqE, nI_eqM, nI_add, nI_addL, nI_Ladd, nI_mulL, nI_Lmul, pk_mul, pk_sub, nI_subL, nI_Lsub, i2l_nI, Int.toNat_natCast, Nat.not_lt_zero, Nat.zero_le, ifT, ifF, not_true_eq_false, not_false_eq_true, if_true, if_false, or_self, and_self, true_and, and_true, or_true, true_or, false_or, or_false, false_and, and_false]
        · obtain ⟨q, q1, q2⟩ := (hM.2 x).mp hx
          have q2 : (OP i q).toInt = x := q2
          by_cases w : q < o
          · have := hq q w
            omega
          · by_cases w2 : q = o
            · rw [w2] at q2; omega
            · have := hM.1 o q (by omega) q1
              have this : (OP i o).toInt ≤ (OP i q).toInt := this
              omega
theorem lst_iff {v : Nat} {G G' : Int → Prop} {r : Int32} (h : lst v G r) (e : ∀ x, opN v x → (G x ↔ G' x)) : lst v G' r := by
  rcases h with ⟨h1, h2⟩ | ⟨h1, h2, h3⟩
  · exact Or.inl ⟨h1, fun x hx hG => h2 x hx ((e x hx).mpr hG)⟩
  · exact Or.inr ⟨h1, (e _ h1).mp h2, fun x hx hG => h3 x hx ((e x hx).mpr hG)⟩
theorem c_leastOption (hO : XO E ah A) (hE : ErE E) (h1 : 1 ≤ k) (h4 : k ≤ 4) (hn : n ≤ 20) (hkn : k < n) (hb : b ≤ 1000) {F : Nat → Int} (hF : ∀ t, t + k < n → dl t = iL (F t) ∧ (F t).natAbs ≤ 1600000000) {i : Nat} (hi' : i < n) {o : Option Nat} (ho : ∀ j, o = some j → j < 20) {ch : Int} (hch : ch.natAbs ≤ 99999999) {cc : Nat} (hv : vl i = nI (V i)) (hv2 : V i ≤ 99999999) (hcc : oc i = nI cc) (hc79 : cc ≤ 79) (hM : srS (fun q => (OP i q).toInt) cc (opN (V i))) {lo hi : Int64} : ∃ L H r, EV E (c + 2) 68 [.ref (A 19), .int (nI i), .int (onI o), .long (iL ch)] (oh E ah A (eS A S fn (nI n) (nI k) (nI b) lo hi vl oc wi sh dl OP)) (some (.int r)) (oh E ah A (eS A S fn (nI n) (nI k) (nI b) L H vl oc wi sh dl OP)) ∧ lst (V i) (fun x => Gok n k b (fun t => F t + mvd k o ch t) i (x - V i)) r := by
  let Q : Option Value → aHp → Prop := fun r1 x => ∃ r L H, r1 = some (.int r) ∧ x = oh E ah A (eS A S fn (nI n) (nI k) (nI b) L H vl oc wi sh dl OP) ∧ lst (V i) (fun x => Gok n k b (fun t => F t + mvd k o ch t) i (x - V i)) r
  have main := l_ls1 (E := E) (c := c) (S := S) (fn := fn) (vl := vl) (oc := oc) (wi := wi) (sh := sh) (OP := OP) hO hE h1 h4 hn hkn hb hF hi' ho hch (Q := Q) (min i (n - k - 1) + 1 - (i - k)) (i - k) (-99999999) 99999999 none (by omega) (by omega) (by decide) (by decide) (fun L' H' l6 q1 q2 q3 => by
    obtain ⟨r, w, hr⟩ := l_ls2 (E := E) (c := c + 2) (S := S) (fn := fn) (wi := wi) (sh := sh) (dl := dl) hO (show i < 20 by omega) hv hv2 hcc hc79 hM q1 q2 (mn := nI n) (od := nI k) (bd := nI b) (l2 := some (.int (onI o))) (ch := iL ch) cc 0 l6 none (by omega) (fun q hq => absurd hq (by omega))
    have w' := WP.mono w (Q' := Q) (by
      rintro r1 x ⟨e1, e2⟩
      refine ⟨r, _, _, e1, e2, lst_iff hr (fun x hx => ?_)⟩
      have rg := op_rg hv2 hx
      rw [q3]
      constructor
      · rintro ⟨-, p2⟩ t t1 t2 t3
        exact p2 t (by omega) (by omega)
      · intro p
        refine ⟨by omega, fun q w1 w2 => p q (by omega) (by omega) (by omega)⟩)
    simp (disch := first | assumption | omega | decide | (simp only [List.length_cons, List.length_nil, Nat.reduceAdd, Nat.reduceLT]; done) | fail) only [r68_70, r68_71, oGF_is, WPo_some, List.getElem?_cons_succ, List.getElem?_cons_zero, kil_n, kil_i, kil_a, kil_u, kil_l, Option.toList_some, Option.toList_none, List.cons_append, List.nil_append, List.set_cons_succ, List.set_cons_zero, addm1, Nat.reduceAdd, List.length_cons, List.length_nil, Nat.reduceLT]
    exact w')
  obtain ⟨r1, x1, ⟨r, L, H, e1, e2, e3⟩, w⟩ := WP.ex main
  subst e1 e2
  refine ⟨L, H, r, e68 ?_, e3⟩
  have kw := c_widen (E := E) (c := c + 1) (S := S) (fn := fn) (lo := lo) (hi := hi) (vl := vl) (oc := oc) (wi := wi) (sh := sh) (dl := dl) (OP := OP) (mn := nI n) (od := nI k) (bd := nI b) hO
  have kf := c_first (E := E) (c := c) (S := S) (fn := fn) (lo := iL (-99999999)) (hi := iL 99999999) (vl := vl) (oc := oc) (wi := wi) (sh := sh) (dl := dl) (OP := OP) (mn := nI n) (bd := nI b) hO (show i < 20 by omega) h4
  simp (disch := first | assumption | omega | decide | (simp only [List.length_cons, List.length_nil, Nat.reduceAdd, Nat.reduceLT]; done) | fail) only [r68_0, r68_4, r68_5, r68_9, q68_1 kw (er_ci hO), q68_6 kf (er_ci hO), oGF_is, WPo_some, List.getElem?_cons_succ, List.getElem?_cons_zero, kil_n, kil_i, kil_a, kil_u, kil_l, Option.toList_some, Option.toList_none, List.cons_append, List.nil_append, List.set_cons_succ, List.set_cons_zero, addm1, Nat.reduceAdd, List.length_cons, List.length_nil, Nat.reduceLT, not_true_eq_false, not_false_eq_true, if_true, if_false, or_self, and_self, true_and, and_true, or_true, true_or, false_or, or_false, false_and, and_false]
  exact w
end EX8

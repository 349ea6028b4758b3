/-! Adding one axis to another, with warnings and carries -/
section ADD
variable (r f g : Nat → Nat) (jm sk : Nat → Bool)
noncomputable def mvA (w : Nat) : Nat := f w + if jm w then 0 else g w
noncomputable def f1A (w : Nat) : Nat := if r w ≤ mvA f g jm w then mvA f g jm w - r w else mvA f g jm w
/-- if a wheel carries on, behind the carries of those ahead of it -/
noncomputable def cyA : Nat → Bool
  | 0 => decide (r 0 ≤ mvA f g jm 0)
  | w + 1 => decide (r (w + 1) ≤ mvA f g jm (w + 1)) || (cyA w && !sk (w + 1) && decide (f1A r f g jm (w + 1) + 1 = r (w + 1)))
noncomputable def f2A : Nat → Nat
  | 0 => f1A r f g jm 0
  | w + 1 => if cyA r f g jm sk w && !sk (w + 1) then (if f1A r f g jm (w + 1) + 1 = r (w + 1) then 0 else f1A r f g jm (w + 1) + 1) else f1A r f g jm (w + 1)
end ADD
noncomputable def bI (b : Bool) : Int32 := if b then 1 else 0
noncomputable def tv (s j : Bool) : Int32 := bI s + (if j then 2 else 0)
theorem tv_2 {s j : Bool} : (tv s j &&& 2 = 0) = (j = false) := by cases s <;> cases j <;> simp [tv, bI] <;> decide
theorem tv_1 {s j : Bool} : (tv s j &&& 1 = 0) = (s = false) := by cases s <;> cases j <;> simp [tv, bI] <;> decide
theorem bI_0 {s : Bool} : (bI s = 0) = (s = false) := by cases s <;> simp [bI]
theorem nar_0 : vp_nar .boolean 0 = 0 := by decide
theorem nar_1 : vp_nar .boolean 1 = 1 := by decide
/-- a row overlaid from a place on -/
noncomputable def ovr {α : Type} (F : Nat → α) (lo n : Nat) (h : Nat → α) : Nat → α := fun p => if lo ≤ p ∧ p < lo + n then h (p - lo) else F p
theorem ovr_0 {α : Type} {F h : Nat → α} {lo : Nat} : ovr F lo 0 h = F := by
  funext p
  unfold ovr
  rw [if_neg (by omega)]
theorem ovr_in {α : Type} {F h : Nat → α} {lo n j : Nat} (hj : j < n) : ovr F lo n h (lo + j) = h j := by
  unfold ovr
  rw [if_pos (by omega), Nat.add_sub_cancel_left]
theorem ovr_out {α : Type} {F h : Nat → α} {lo n p : Nat} (hp : p < lo ∨ lo + n ≤ p) : ovr F lo n h p = F p := by
  unfold ovr
  rw [if_neg (by omega)]
theorem upd_ovr {F h : Nat → Int32} {lo i : Nat} {x : Int32} (hx : x = h i) : upd (ovr F lo i h) (lo + i) x = ovr F lo (i + 1) h := by
  funext p
  unfold upd ovr
  by_cases e : p = lo + i
  · subst e
    rw [if_pos rfl, if_pos (by omega), Nat.add_sub_cancel_left, hx]
  · rw [if_neg e]
    by_cases e2 : lo ≤ p ∧ p < lo + i
    · rw [if_pos e2, if_pos (by omega)]
    · rw [if_neg e2, if_neg (by omega)]
theorem upd_ovr0 {F h : Nat → Int32} {i : Nat} {x : Int32} (hx : x = h i) : upd (ovr F 0 i h) i x = ovr F 0 (i + 1) h := by
  have := upd_ovr (F := F) (lo := 0) (i := i) hx
  rw [Nat.zero_add] at this
  exact this
theorem upd_ovr_in {F h : Nat → Int32} {lo n i : Nat} {x : Int32} (hi : i < n) : upd (ovr F lo n h) (lo + i) x = ovr F lo n (upd h i x) := by
  funext p
  unfold upd ovr
  by_cases e : p = lo + i
  · subst e
    rw [if_pos rfl, if_pos (by omega), Nat.add_sub_cancel_left]
    simp
  · rw [if_neg e]
    by_cases e2 : lo ≤ p ∧ p < lo + n
    · rw [if_pos e2, if_pos e2]
      dsimp only
      rw [if_neg (by omega)]
    · rw [if_neg e2, if_neg e2]
theorem iu_c {v : Nat → Nat → Int32} {k j : Nat} {a b x : Nat → Int32} (h : ¬ j = k) : iu (iu (iu v k a) j b) k x = iu (iu v k x) j b := by
  funext q
  unfold iu
  by_cases h1 : q = k
  · subst h1
    have h' : ¬ q = j := fun z => h z.symm
    simp [h']
  · by_cases h2 : q = j
    · subst h2
      simp [h1]
    · simp [h1, h2]
theorem iu_same {v : Nat → Nat → Int32} {k : Nat} {x : Nat → Int32} (h : x = v k) : iu v k x = v := by rw [h, iu_self]
theorem upd_upd {F : Nat → Int32} {k : Nat} {x y : Int32} : upd (upd F k x) k y = upd F k y := by
  funext j
  unfold upd
  split <;> rfl
theorem upd_self {F : Nat → Int32} {k : Nat} : upd F k (F k) = F := by
  funext j
  unfold upd
  split
  · next h => rw [h]
  · rfl
section ADX
variable {E : aEnv} {c b ax wh : Nat} {ah : aHp} {A : Nat → Nat} {S : Nat → aE} {al : Int64} {ms tu : Int32} {ei : Nat → Nat → Int32} {el : Nat → Nat → Int64} {Q : Option Value → aHp → Prop}
theorem c_carryTo (h : XB E ah A b) (ha : ax ≤ 7) (hw : wh ≤ 12) {p w f r : Nat} (hp : p < ax * wh) (h2 : w < wh) (hf : ei 8 p = nI f) (hr : ei 6 w = nI r) (hf2 : f < 12) (hr2 : r ≤ 12) : EV E c 52 [.ref (A b), .int (nI p), .int (nI w)] (oh E ah A (eSt A S b ax wh al ms tu ei el)) none (oh E ah A (eSt A S b ax wh al ms tu (iu (iu ei 8 (upd (ei 8) p (nI (if f + 1 = r then 0 else f + 1)))) 10 (if f + 1 = r then upd (ei 10) w 1 else ei 10)) el)) := by
  refine e52 ?_
  have i2 := ix_84 ha hw
  by_cases e : f + 1 = r
  · simp (disch := first | assumption | omega | decide | (simp only [List.length_cons, List.length_nil, Nat.reduceAdd, Nat.reduceLT]; done)) only [r52_0, r52_1, r52_4, r52_5, r52_5l, r52_6, r52_7, r52_8, r52_9, r52_10, r52_11, r52_14, r52_15, r52_16, r52_17, r52_20, r52_21, r52_22, r52_25, r52_26, r52_29, r52_30, r52_31, r52_32, r52_33, r52_36, r52_37, r52_38, r52_39, ge_0 h, oGF_is, WPo_some, List.getElem?_cons_succ, List.getElem?_cons_zero, kil_n, kil_i, kil_a, kil_u, kil_l, Option.toList_some, Option.toList_none, List.cons_append, List.nil_append, List.set_cons_succ, List.set_cons_zero, addm1, Nat.reduceAdd, List.length_cons, List.length_nil, Nat.reduceLT, nI_clamp, nI_toInt, nI_leL, nI_Lle, nI_ltL, nI_Llt, nI_eqL, nI_Leq, nI_leE, nI_ltE, nI_eqE, nI_eqM, nI_add, nI_addL, nI_Ladd, nI_mulL, nI_Lmul, pk_mul, pk_sub, nI_subL, nI_Lsub, i2l_nI, Int.toNat_natCast, Nat.not_lt_zero, Nat.zero_le, ifT, ifF, not_true_eq_false, not_false_eq_true, if_true, if_false, or_self, and_self, true_and, and_true, or_true, true_or, false_or, or_false, false_and, and_false, gI, pI, pB, ge_8 h, ge_6 h, ge_10 h, se_8 h, se_10 h, iu_at, iu_ne, hf, hr, pk_us, nI_1, e, iu_iu, upd_upd, nar_1, nI_0]
  · simp (disch := first | assumption | omega | decide | (simp only [List.length_cons, List.length_nil, Nat.reduceAdd, Nat.reduceLT]; done)) only [r52_0, r52_1, r52_4, r52_5, r52_5l, r52_6, r52_7, r52_8, r52_9, r52_10, r52_11, r52_14, r52_15, r52_16, r52_17, r52_20, r52_21, r52_22, r52_25, r52_26, r52_29, r52_30, r52_31, r52_32, r52_33, r52_36, r52_37, r52_38, r52_39, ge_0 h, oGF_is, WPo_some, List.getElem?_cons_succ, List.getElem?_cons_zero, kil_n, kil_i, kil_a, kil_u, kil_l, Option.toList_some, Option.toList_none, List.cons_append, List.nil_append, List.set_cons_succ, List.set_cons_zero, addm1, Nat.reduceAdd, List.length_cons, List.length_nil, Nat.reduceLT, nI_clamp, nI_toInt, nI_leL, nI_Lle, nI_ltL, nI_Llt, nI_eqL, nI_Leq, nI_leE, nI_ltE, nI_eqE, nI_eqM, nI_add, nI_addL, nI_Ladd, nI_mulL, nI_Lmul, pk_mul, pk_sub, nI_subL, nI_Lsub, i2l_nI, Int.toNat_natCast, Nat.not_lt_zero, Nat.zero_le, ifT, ifF, not_true_eq_false, not_false_eq_true, if_true, if_false, or_self, and_self, true_and, and_true, or_true, true_or, false_or, or_false, false_and, and_false, gI, pI, pB, ge_8 h, ge_6 h, ge_10 h, se_8 h, se_10 h, iu_at, iu_ne, hf, hr, pk_us, nI_1, e]
    rw [iu_same (v := iu ei 8 (upd (ei 8) p (nI (f + 1)))) (k := 10) (by simp [iu])]
theorem l_add1 (h : XB E ah A b) (ha : ax ≤ 7) (hw : wh ≤ 12) {x : Nat} (hx : x + 1 < ax) {r f g : Nat → Nat} {jm sk : Nat → Bool} (hr : ∀ w, w < wh → ei 6 w = nI (r w) ∧ r w ≤ 12) (hf : ∀ w, w < wh → ei 8 (x * wh + w) = nI (f w) ∧ f w < r w) (hg : ∀ w, w < wh → ei 8 (x * wh + wh + w) = nI (g w) ∧ g w < r w) (ht : ∀ w, w < wh → ei 9 (x * wh + w) = tv (sk w) (jm w))
    (K : ∀ l5 l6, WP E c 51 141 [some (.ref (A b)), some (.int (nI x)), some (.int (nI (x * wh))), some (.int (nI (x * wh + wh))), some (.int (nI wh)), l5, l6] [] (oh E ah A (eSt A S b ax wh al ms tu (iu (iu ei 8 (ovr (ei 8) (x * wh) wh (fun w => nI (f1A r f g jm w)))) 10 (ovr (ei 10) 0 wh (fun w => bI (decide (r w ≤ mvA f g jm w))))) el)) Q) :
    ∀ z i l5 l6, i + z = wh → WP E c 51 17 [some (.ref (A b)), some (.int (nI x)), some (.int (nI (x * wh))), some (.int (nI (x * wh + wh))), some (.int (nI i)), l5, l6] [] (oh E ah A (eSt A S b ax wh al ms tu (iu (iu ei 8 (ovr (ei 8) (x * wh) i (fun w => nI (f1A r f g jm w)))) 10 (ovr (ei 10) 0 i (fun w => bI (decide (r w ≤ mvA f g jm w))))) el)) Q
  | 0, i, l5, l6, hz => by
    rw [show i = wh by omega, r51_17]
    simp (disch := first | assumption | omega | decide | (simp only [List.length_cons, List.length_nil, Nat.reduceAdd, Nat.reduceLT]; done)) only [r51_19, r51_20, r51_23, ge_0 h, oGF_is, WPo_some, List.getElem?_cons_succ, List.getElem?_cons_zero, kil_n, kil_i, kil_a, kil_u, kil_l, Option.toList_some, Option.toList_none, List.cons_append, List.nil_append, List.set_cons_succ, List.set_cons_zero, addm1, Nat.reduceAdd, List.length_cons, List.length_nil, Nat.reduceLT, nI_clamp, nI_toInt, nI_leL, nI_Lle, nI_ltL, nI_Llt, nI_eqL, nI_Leq, nI_leE, nI_ltE, nI_eqE, nI_eqM, nI_add, nI_addL, nI_Ladd, nI_mulL, nI_Lmul, pk_mul, pk_sub, nI_subL, nI_Lsub, i2l_nI, Int.toNat_natCast, Nat.not_lt_zero, Nat.zero_le, ifT, ifF, not_true_eq_false, not_false_eq_true, if_true, if_false, or_self, and_self, true_and, and_true, or_true, true_or, false_or, or_false, false_and, and_false]
    exact K l5 l6
  | z + 1, i, l5, l6, hz => by
    have ih := fun l5 l6 => l_add1 h ha hw hx hr hf hg ht K z (i + 1) l5 l6 (by omega)
    have i1 := ix_lt (show x < ax by omega) (show i < wh by omega)
    have i3 := ix_lt hx (show i < wh by omega)
    rw [Nat.succ_mul] at i3
    have i2 := ix_84 ha hw
    obtain ⟨r1, r2⟩ := hr i (by omega)
    obtain ⟨f1, f2⟩ := hf i (by omega)
    obtain ⟨g1, g2⟩ := hg i (by omega)
    have t1 := ht i (by omega)
    rw [r51_17]
    simp (disch := first | assumption | omega | decide | (simp only [List.length_cons, List.length_nil, Nat.reduceAdd, Nat.reduceLT]; done)) only [r51_19, r51_20, r51_23, r51_26, r51_27, r51_30, r51_31, r51_33, r51_34, r51_35, r51_36, r51_37, r51_40, r51_41, r51_44, r51_45, r51_47, r51_48, r51_51, r51_52, r51_54, r51_55, r51_56, r51_58, r51_61, r51_62, r51_65, r51_66, r51_69, r51_70, r51_72, r51_73, r51_74, r51_75, r51_77, r51_78, r51_81, r51_83, r51_85, r51_86, r51_89, r51_91, r51_92, r51_95, r51_96, r51_99, r51_100, r51_101, r51_102, r51_105, r51_106, r51_108, r51_109, r51_110, r51_113, r51_115, r51_116, r51_119, r51_121, r51_122, r51_125, r51_127, r51_128, r51_129, r51_132, r51_134, r51_135, r51_138, ge_0 h, oGF_is, WPo_some, List.getElem?_cons_succ, List.getElem?_cons_zero, kil_n, kil_i, kil_a, kil_u, kil_l, Option.toList_some, Option.toList_none, List.cons_append, List.nil_append, List.set_cons_succ, List.set_cons_zero, addm1, Nat.reduceAdd, List.length_cons, List.length_nil, Nat.reduceLT, nI_clamp, nI_toInt, nI_leL, nI_Lle, nI_ltL, nI_Llt, nI_eqL, nI_Leq, nI_leE, nI_ltE, nI_eqE, nI_eqM, nI_add, nI_addL, nI_Ladd, nI_mulL, nI_Lmul, pk_mul, pk_sub, nI_subL, nI_Lsub, i2l_nI, Int.toNat_natCast, Nat.not_lt_zero, Nat.zero_le, ifT, ifF, not_true_eq_false, not_false_eq_true, if_true, if_false, or_self, and_self, true_and, and_true, or_true, true_or, false_or, or_false, false_and, and_false, gI, pI, gB, pB, ge_6 h, ge_8 h, ge_9 h, ge_10 h, se_8 h, se_10 h, iu_at, iu_ne, r1, t1, tv_2, ovr_out, f1, g1]
    cases hj : jm i with
    | false =>
      by_cases hc : r i ≤ f i + g i
      · have m1 : mvA f g jm i = f i + g i := by simp [mvA, hj]
        have m2 : f1A r f g jm i = f i + g i - r i := by simp [f1A, m1, hc]
        have m3 : bI (decide (r i ≤ mvA f g jm i)) = 1 := by simp [bI, m1, hc]
        have m4 := upd_ovr (F := ei 8) (lo := x * wh) (i := i) (h := fun w => nI (f1A r f g jm w)) (x := nI (f i + g i - r i)) (by simp only [m2])
        have m5 := upd_ovr0 (F := ei 10) (i := i) (h := fun w => bI (decide (r w ≤ mvA f g jm w))) (x := 1) (by simp only [m3])
        simp (disch := first | assumption | omega | decide | (simp only [List.length_cons, List.length_nil, Nat.reduceAdd, Nat.reduceLT]; done)) only [hj, pk_us, nar_0, nar_1, not_true_eq_false, not_false_eq_true, if_true, if_false, or_self, and_self, true_and, and_true, or_true, true_or, false_or, or_false, false_and, and_false, m4, m5, iu_iu, iu_c, Bool.true_eq_false, ifT, ifF, pk_sub, show ¬ (1 : Int32) = 0 by decide]
        exact ih _ _
      · have m1 : mvA f g jm i = f i + g i := by simp [mvA, hj]
        have m2 : f1A r f g jm i = f i + g i := by simp [f1A, m1, hc]
        have m3 : bI (decide (r i ≤ mvA f g jm i)) = 0 := by simp [bI, m1, hc]
        have m4 := upd_ovr (F := ei 8) (lo := x * wh) (i := i) (h := fun w => nI (f1A r f g jm w)) (x := nI (f i + g i)) (by simp only [m2])
        have m5 := upd_ovr0 (F := ei 10) (i := i) (h := fun w => bI (decide (r w ≤ mvA f g jm w))) (x := 0) (by simp only [m3])
        simp (disch := first | assumption | omega | decide | (simp only [List.length_cons, List.length_nil, Nat.reduceAdd, Nat.reduceLT]; done)) only [hj, pk_us, nar_0, nar_1, not_true_eq_false, not_false_eq_true, if_true, if_false, or_self, and_self, true_and, and_true, or_true, true_or, false_or, or_false, false_and, and_false, m4, m5, iu_iu, iu_c, Bool.true_eq_false, ifT, ifF, pk_sub, show ¬ (1 : Int32) = 0 by decide]
        exact ih _ _
    | true =>
      have hc : ¬ r i ≤ f i := by omega
      have m1 : mvA f g jm i = f i := by simp [mvA, hj]
      have m2 : f1A r f g jm i = f i := by simp [f1A, m1, hc]
      have m3 : bI (decide (r i ≤ mvA f g jm i)) = 0 := by simp [bI, m1, hc]
      have m4 := upd_ovr (F := ei 8) (lo := x * wh) (i := i) (h := fun w => nI (f1A r f g jm w)) (x := nI (f i)) (by simp only [m2])
      have m5 := upd_ovr0 (F := ei 10) (i := i) (h := fun w => bI (decide (r w ≤ mvA f g jm w))) (x := 0) (by simp only [m3])
      simp (disch := first | assumption | omega | decide | (simp only [List.length_cons, List.length_nil, Nat.reduceAdd, Nat.reduceLT]; done)) only [hj, Nat.add_zero, pk_us, nar_0, nar_1, not_true_eq_false, not_false_eq_true, if_true, if_false, or_self, and_self, true_and, and_true, or_true, true_or, false_or, or_false, false_and, and_false, m4, m5, iu_iu, iu_c, Bool.true_eq_false, ifT, ifF, pk_sub, show ¬ (1 : Int32) = 0 by decide]
      exact ih _ _
theorem ovr_c {α : Type} {F h h' : Nat → α} {lo n : Nat} (hh : ∀ j, j < n → h j = h' j) : ovr F lo n h = ovr F lo n h' := by
  funext p
  unfold ovr
  split
  · exact hh _ (by omega)
  · rfl
theorem st_up {h1 h2 : Nat → Nat} {i : Nat} : upd (fun j => nI (if j < i then h2 j else h1 j)) i (nI (h2 i)) = fun j => nI (if j < i + 1 then h2 j else h1 j) := by
  funext j
  unfold upd
  by_cases e : j = i
  · subst e
    simp
  · by_cases e2 : j < i
    · simp [e, e2, show j < i + 1 by omega]
    · simp [e, e2, show ¬ j < i + 1 by omega]
theorem st_upb {h1 h2 : Nat → Bool} {i : Nat} : upd (fun j => bI (if j < i then h2 j else h1 j)) i (bI (h2 i)) = fun j => bI (if j < i + 1 then h2 j else h1 j) := by
  funext j
  unfold upd
  by_cases e : j = i
  · subst e
    simp
  · by_cases e2 : j < i
    · simp [e, e2, show j < i + 1 by omega]
    · simp [e, e2, show ¬ j < i + 1 by omega]
theorem st_no {α β : Type} (φ : α → β) {h1 h2 : Nat → α} {i : Nat} (h : h2 i = h1 i) : (fun j => φ (if j < i then h2 j else h1 j)) = fun j => φ (if j < i + 1 then h2 j else h1 j) := by
  funext j
  by_cases e : j = i
  · subst e
    simp [h]
  · by_cases e2 : j < i
    · simp [e2, show j < i + 1 by omega]
    · simp [e2, show ¬ j < i + 1 by omega]
theorem upd_ovr0_in {F h : Nat → Int32} {n i : Nat} {x : Int32} (hi : i < n) : upd (ovr F 0 n h) i x = ovr F 0 n (upd h i x) := by
  have := upd_ovr_in (F := F) (h := h) (lo := 0) (x := x) hi
  rw [Nat.zero_add] at this
  exact this
theorem ovr0_in {α : Type} {F h : Nat → α} {n j : Nat} (hj : j < n) : ovr F 0 n h j = h j := by
  have := ovr_in (F := F) (h := h) (lo := 0) hj
  rw [Nat.zero_add] at this
  exact this
theorem f1A_lt {r f g : Nat → Nat} {jm : Nat → Bool} {w : Nat} (hf : f w < r w) (hg : g w < r w) : f1A r f g jm w < r w := by
  unfold f1A mvA
  split <;> split <;> omega
theorem l_add2 (h : XB E ah A b) (ha : ax ≤ 7) (hw : wh ≤ 12) {x : Nat} (hx : x + 1 < ax) {r f g : Nat → Nat} {jm sk : Nat → Bool} (hr : ∀ w, w < wh → ei 6 w = nI (r w) ∧ r w ≤ 12) (hf : ∀ w, w < wh → f w < r w) (hg : ∀ w, w < wh → g w < r w) (ht : ∀ w, w < wh → ei 9 (x * wh + w) = tv (sk w) (jm w)) :
    ∀ z k l5 l6 l3, k + 1 + z = wh → WP E (c + 1) 51 144 [some (.ref (A b)), some (.int (nI x)), some (.int (nI (x * wh))), l3, some (.int (nI (k + 1))), l5, l6] [] (oh E ah A (eSt A S b ax wh al ms tu (iu (iu ei 8 (ovr (ei 8) (x * wh) wh (fun j => nI (if j < k + 1 then f2A r f g jm sk j else f1A r f g jm j)))) 10 (ovr (ei 10) 0 wh (fun j => bI (if j < k + 1 then cyA r f g jm sk j else decide (r j ≤ mvA f g jm j))))) el)) (fun r1 x1 => r1 = none ∧ x1 = oh E ah A (eSt A S b ax wh al ms tu (iu (iu ei 8 (ovr (ei 8) (x * wh) wh (fun w => nI (f2A r f g jm sk w)))) 10 (ovr (ei 10) 0 wh (fun w => bI (cyA r f g jm sk w)))) el))
  | 0, k, l5, l6, l3, hz => by
    rw [show k + 1 = wh by omega, r51_144]
    simp (disch := first | assumption | omega | decide | (simp only [List.length_cons, List.length_nil, Nat.reduceAdd, Nat.reduceLT]; done)) only [r51_146, r51_147, r51_150, r51_207, ge_0 h, oGF_is, WPo_some, List.getElem?_cons_succ, List.getElem?_cons_zero, kil_n, kil_i, kil_a, kil_u, kil_l, Option.toList_some, Option.toList_none, List.cons_append, List.nil_append, List.set_cons_succ, List.set_cons_zero, addm1, Nat.reduceAdd, List.length_cons, List.length_nil, Nat.reduceLT, nI_clamp, nI_toInt, nI_leL, nI_Lle, nI_ltL, nI_Llt, nI_eqL, nI_Leq, nI_leE, nI_ltE, nI_eqE, nI_eqM, nI_add, nI_addL, nI_Ladd, nI_mulL, nI_Lmul, pk_mul, pk_sub, nI_subL, nI_Lsub, i2l_nI, Int.toNat_natCast, Nat.not_lt_zero, Nat.zero_le, ifT, ifF, not_true_eq_false, not_false_eq_true, if_true, if_false, or_self, and_self, true_and, and_true, or_true, true_or, false_or, or_false, false_and, and_false]
    rw [ovr_c (h' := fun w => nI (f2A r f g jm sk w)) (fun j hj => by simp [hj]), ovr_c (F := ei 10) (h' := fun w => bI (cyA r f g jm sk w)) (fun j hj => by simp [hj])]
  | z + 1, k, l5, l6, l3, hz => by
    have ih := fun l5 l6 l3 => l_add2 h ha hw hx hr hf hg ht z (k + 1) l5 l6 l3 (by omega)
    have hk : k + 1 < wh := by omega
    have i1 := ix_lt (show x < ax by omega) hk
    have i2 := ix_84 ha hw
    obtain ⟨r1, r2⟩ := hr (k + 1) hk
    have t1 := ht (k + 1) hk
    have hl := f1A_lt (jm := jm) (hf (k + 1) hk) (hg (k + 1) hk)
    have c1 := c_carryTo (c := c) (S := S) (al := al) (ms := ms) (tu := tu) (el := el) h ha hw (p := x * wh + (k + 1)) (w := k + 1) (ei := iu (iu ei 8 (ovr (ei 8) (x * wh) wh (fun j => nI (if j < k + 1 then f2A r f g jm sk j else f1A r f g jm j)))) 10 (ovr (ei 10) 0 wh (fun j => bI (if j < k + 1 then cyA r f g jm sk j else decide (r j ≤ mvA f g jm j))))) (f := f1A r f g jm (k + 1)) (r := r (k + 1)) i1 hk (by simp [iu, ovr_in hk]) (by simp [iu, r1]) (by omega) r2
    rw [r51_144]
    simp (disch := first | assumption | omega | decide | (simp only [List.length_cons, List.length_nil, Nat.reduceAdd, Nat.reduceLT]; done)) only [r51_146, r51_147, r51_150, r51_153, r51_154, r51_157, r51_158, r51_160, r51_161, r51_162, r51_163, r51_164, r51_167, r51_168, r51_171, r51_172, ge_0 h, oGF_is, WPo_some, List.getElem?_cons_succ, List.getElem?_cons_zero, kil_n, kil_i, kil_a, kil_u, kil_l, Option.toList_some, Option.toList_none, List.cons_append, List.nil_append, List.set_cons_succ, List.set_cons_zero, addm1, Nat.reduceAdd, List.length_cons, List.length_nil, Nat.reduceLT, nI_clamp, nI_toInt, nI_leL, nI_Lle, nI_ltL, nI_Llt, nI_eqL, nI_Leq, nI_leE, nI_ltE, nI_eqE, nI_eqM, nI_add, nI_addL, nI_Ladd, nI_mulL, nI_Lmul, pk_mul, pk_sub, nI_subL, nI_Lsub, i2l_nI, Int.toNat_natCast, Nat.not_lt_zero, Nat.zero_le, ifT, ifF, not_true_eq_false, not_false_eq_true, if_true, if_false, or_self, and_self, true_and, and_true, or_true, true_or, false_or, or_false, false_and, and_false, gI, gB, ge_6 h, ge_8 h, ge_9 h, ge_10 h, iu_at, iu_ne, t1, tv_1, Nat.add_sub_cancel]
    have w1 : (if k < k + 1 then cyA r f g jm sk k else decide (r k ≤ mvA f g jm k)) = cyA r f g jm sk k := if_pos (by omega)
    cases hs : sk (k + 1) with
    | true =>
      have m1 : f2A r f g jm sk (k + 1) = f1A r f g jm (k + 1) := by simp [f2A, hs]
      have m2 : cyA r f g jm sk (k + 1) = decide (r (k + 1) ≤ mvA f g jm (k + 1)) := by simp [cyA, hs]
      simp (disch := first | assumption | omega | decide | (simp only [List.length_cons, List.length_nil, Nat.reduceAdd, Nat.reduceLT]; done)) only [hs, not_true_eq_false, not_false_eq_true, if_true, if_false, or_self, and_self, true_and, and_true, or_true, true_or, false_or, or_false, false_and, and_false, r51_167, r51_168, r51_171, r51_172, r51_174, r51_175, r51_178, r51_180, r51_181, r51_182, r51_183, r51_186, r51_188, r51_191, r51_192, r51_193, r51_195, r51_196, r51_201, r51_204, ge_0 h, oGF_is, WPo_some, List.getElem?_cons_succ, List.getElem?_cons_zero, kil_n, kil_i, kil_a, kil_u, kil_l, Option.toList_some, Option.toList_none, List.cons_append, List.nil_append, List.set_cons_succ, List.set_cons_zero, addm1, Nat.reduceAdd, List.length_cons, List.length_nil, Nat.reduceLT, nI_clamp, nI_toInt, nI_leL, nI_Lle, nI_ltL, nI_Llt, nI_eqL, nI_Leq, nI_leE, nI_ltE, nI_eqE, nI_eqM, nI_add, nI_addL, nI_Ladd, nI_mulL, nI_Lmul, pk_mul, pk_sub, nI_subL, nI_Lsub, i2l_nI, Int.toNat_natCast, Nat.not_lt_zero, Nat.zero_le, ifT, ifF, gB, ge_10 h, iu_at, Nat.add_sub_cancel, ovr0_in, w1, bI_0, Bool.true_eq_false, show ¬ (1 : Int32) = 0 by decide, ite_self]
      rw [st_no nI m1, st_no bI m2]
      exact ih _ _ _
    | false =>
      cases hy : cyA r f g jm sk k with
      | false =>
        have m1 : f2A r f g jm sk (k + 1) = f1A r f g jm (k + 1) := by simp [f2A, hs, hy]
        have m2 : cyA r f g jm sk (k + 1) = decide (r (k + 1) ≤ mvA f g jm (k + 1)) := by simp [cyA, hs, hy]
        simp (disch := first | assumption | omega | decide | (simp only [List.length_cons, List.length_nil, Nat.reduceAdd, Nat.reduceLT]; done)) only [hs, not_true_eq_false, not_false_eq_true, if_true, if_false, or_self, and_self, true_and, and_true, or_true, true_or, false_or, or_false, false_and, and_false, r51_171, r51_172, r51_174, r51_175, r51_178, r51_180, r51_181, r51_182, r51_183, r51_186, r51_188, r51_191, r51_192, r51_193, r51_195, r51_196, r51_201, r51_204, ge_0 h, oGF_is, WPo_some, List.getElem?_cons_succ, List.getElem?_cons_zero, kil_n, kil_i, kil_a, kil_u, kil_l, Option.toList_some, Option.toList_none, List.cons_append, List.nil_append, List.set_cons_succ, List.set_cons_zero, addm1, Nat.reduceAdd, List.length_cons, List.length_nil, Nat.reduceLT, nI_clamp, nI_toInt, nI_leL, nI_Lle, nI_ltL, nI_Llt, nI_eqL, nI_Leq, nI_leE, nI_ltE, nI_eqE, nI_eqM, nI_add, nI_addL, nI_Ladd, nI_mulL, nI_Lmul, pk_mul, pk_sub, nI_subL, nI_Lsub, i2l_nI, Int.toNat_natCast, Nat.not_lt_zero, Nat.zero_le, ifT, ifF, gB, ge_10 h, iu_at, Nat.add_sub_cancel, ovr0_in, w1, hy, bI_0]
        rw [st_no nI m1, st_no bI m2]
        exact ih _ _ _
      | true =>
        have m1 : f2A r f g jm sk (k + 1) = if f1A r f g jm (k + 1) + 1 = r (k + 1) then 0 else f1A r f g jm (k + 1) + 1 := by simp [f2A, hs, hy]
        simp (disch := first | assumption | omega | decide | (simp only [List.length_cons, List.length_nil, Nat.reduceAdd, Nat.reduceLT]; done)) only [hs, not_true_eq_false, not_false_eq_true, if_true, if_false, or_self, and_self, true_and, and_true, or_true, true_or, false_or, or_false, false_and, and_false, r51_171, r51_172, r51_174, r51_175, r51_178, r51_180, r51_181, r51_182, r51_183, r51_186, r51_188, r51_191, r51_192, r51_193, r51_195, r51_196, r51_201, r51_204, ge_0 h, oGF_is, WPo_some, List.getElem?_cons_succ, List.getElem?_cons_zero, kil_n, kil_i, kil_a, kil_u, kil_l, Option.toList_some, Option.toList_none, List.cons_append, List.nil_append, List.set_cons_succ, List.set_cons_zero, addm1, Nat.reduceAdd, List.length_cons, List.length_nil, Nat.reduceLT, nI_clamp, nI_toInt, nI_leL, nI_Lle, nI_ltL, nI_Llt, nI_eqL, nI_Leq, nI_leE, nI_ltE, nI_eqE, nI_eqM, nI_add, nI_addL, nI_Ladd, nI_mulL, nI_Lmul, pk_mul, pk_sub, nI_subL, nI_Lsub, i2l_nI, Int.toNat_natCast, Nat.not_lt_zero, Nat.zero_le, ifT, ifF, gB, ge_10 h, iu_at, Nat.add_sub_cancel, ovr0_in, w1, hy, bI_0, Bool.true_eq_false, q51_198 c1 h.ci, ← m1]
        have e1 : upd (iu (iu ei 8 (ovr (ei 8) (x * wh) wh (fun j => nI (if j < k + 1 then f2A r f g jm sk j else f1A r f g jm j)))) 10 (ovr (ei 10) 0 wh (fun j => bI (if j < k + 1 then cyA r f g jm sk j else decide (r j ≤ mvA f g jm j)))) 8) (x * wh + (k + 1)) (nI (f2A r f g jm sk (k + 1))) = ovr (ei 8) (x * wh) wh (fun j => nI (if j < k + 1 + 1 then f2A r f g jm sk j else f1A r f g jm j)) := by
          rw [iu_ne (by decide), iu_at, upd_ovr_in hk, st_up]
        have e2 : (if f1A r f g jm (k + 1) + 1 = r (k + 1) then upd (iu (iu ei 8 (ovr (ei 8) (x * wh) wh (fun j => nI (if j < k + 1 then f2A r f g jm sk j else f1A r f g jm j)))) 10 (ovr (ei 10) 0 wh (fun j => bI (if j < k + 1 then cyA r f g jm sk j else decide (r j ≤ mvA f g jm j)))) 10) (k + 1) 1 else iu (iu ei 8 (ovr (ei 8) (x * wh) wh (fun j => nI (if j < k + 1 then f2A r f g jm sk j else f1A r f g jm j)))) 10 (ovr (ei 10) 0 wh (fun j => bI (if j < k + 1 then cyA r f g jm sk j else decide (r j ≤ mvA f g jm j)))) 10) = ovr (ei 10) 0 wh (fun j => bI (if j < k + 1 + 1 then cyA r f g jm sk j else decide (r j ≤ mvA f g jm j))) := by
          rw [iu_at]
          by_cases e : f1A r f g jm (k + 1) + 1 = r (k + 1)
          · have m2 : bI (cyA r f g jm sk (k + 1)) = 1 := by simp [cyA, hs, hy, e, bI]
            rw [if_pos e, upd_ovr0_in hk, ← m2, st_upb]
          · have m2 : cyA r f g jm sk (k + 1) = decide (r (k + 1) ≤ mvA f g jm (k + 1)) := by simp [cyA, e]
            rw [if_neg e, st_no bI m2]
        simp only [iu_at] at e2
        rw [e1, e2, iu_c (by decide), iu_c (by decide)]
        exact ih _ _ _
theorem c_addNext (h : XB E ah A b) (ha : ax ≤ 7) (hw : wh ≤ 12) (hw1 : 1 ≤ wh) {x : Nat} (hx : x + 1 < ax) {r f g : Nat → Nat} {jm sk : Nat → Bool} (hr : ∀ w, w < wh → ei 6 w = nI (r w) ∧ r w ≤ 12) (hf : ∀ w, w < wh → ei 8 (x * wh + w) = nI (f w) ∧ f w < r w) (hg : ∀ w, w < wh → ei 8 (x * wh + wh + w) = nI (g w) ∧ g w < r w) (ht : ∀ w, w < wh → ei 9 (x * wh + w) = tv (sk w) (jm w)) :
    EV E (c + 1) 51 [.ref (A b), .int (nI x)] (oh E ah A (eSt A S b ax wh al ms tu ei el)) none (oh E ah A (eSt A S b ax wh al ms tu (iu (iu ei 8 (ovr (ei 8) (x * wh) wh (fun w => nI (f2A r f g jm sk w)))) 10 (ovr (ei 10) 0 wh (fun w => bI (cyA r f g jm sk w)))) el)) := by
  refine e51 ?_
  simp (disch := first | assumption | omega | decide | (simp only [List.length_cons, List.length_nil, Nat.reduceAdd, Nat.reduceLT]; done)) only [r51_0, r51_1, r51_2, r51_5, r51_6, r51_7, r51_8, r51_9, r51_12, r51_13, r51_14, r51_15, ge_0 h, oGF_is, WPo_some, List.getElem?_cons_succ, List.getElem?_cons_zero, kil_n, kil_i, kil_a, kil_u, kil_l, Option.toList_some, Option.toList_none, List.cons_append, List.nil_append, List.set_cons_succ, List.set_cons_zero, addm1, Nat.reduceAdd, List.length_cons, List.length_nil, Nat.reduceLT, nI_clamp, nI_toInt, nI_leL, nI_Lle, nI_ltL, nI_Llt, nI_eqL, nI_Leq, nI_leE, nI_ltE, nI_eqE, nI_eqM, nI_add, nI_addL, nI_Ladd, nI_mulL, nI_Lmul, pk_mul, pk_sub, nI_subL, nI_Lsub, i2l_nI, Int.toNat_natCast, Nat.not_lt_zero, Nat.zero_le, ifT, ifF, not_true_eq_false, not_false_eq_true, if_true, if_false, or_self, and_self, true_and, and_true, or_true, true_or, false_or, or_false, false_and, and_false]
  have h1 := l_add1 (c := c + 1) (S := S) (al := al) (ms := ms) (tu := tu) (el := el) h ha hw hx hr hf hg ht (Q := fun r1 x1 => r1 = none ∧ x1 = oh E ah A (eSt A S b ax wh al ms tu (iu (iu ei 8 (ovr (ei 8) (x * wh) wh (fun w => nI (f2A r f g jm sk w)))) 10 (ovr (ei 10) 0 wh (fun w => bI (cyA r f g jm sk w)))) el)) (fun l5 l6 => by
    have h2 := fun l3 => l_add2 (c := c) (S := S) (al := al) (ms := ms) (tu := tu) (el := el) h ha hw hx hr (fun w z => (hf w z).2) (fun w z => (hg w z).2) ht (wh - 1) 0 l5 l6 l3 (by omega)
    have e1 : (fun j => nI (if j < 0 + 1 then f2A r f g jm sk j else f1A r f g jm j)) = fun w => nI (f1A r f g jm w) := by
      funext j
      cases j with
      | zero => simp [f2A]
      | succ j => simp
    have e2 : (fun j => bI (if j < 0 + 1 then cyA r f g jm sk j else decide (r j ≤ mvA f g jm j))) = fun w => bI (decide (r w ≤ mvA f g jm w)) := by
      funext j
      cases j with
      | zero => simp [cyA]
      | succ j => simp
    rw [e1, e2] at h2
    simp only [r51_141, r51_142, kil_i, oGF_is, WPo_some, List.getElem?_cons_succ, List.getElem?_cons_zero, kil_n, kil_i, kil_a, kil_u, kil_l, Option.toList_some, Option.toList_none, List.cons_append, List.nil_append, List.set_cons_succ, List.set_cons_zero, addm1, Nat.reduceAdd, List.length_cons, List.length_nil, Nat.reduceLT]
    exact h2 _) wh 0
  rw [ovr_0, ovr_0, iu_self, iu_self] at h1
  exact h1 _ _ (by omega)
end ADX

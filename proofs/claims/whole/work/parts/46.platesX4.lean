/-! Plates of the class: wrong, bad -/
section PLX4
variable {E : aEnv} {c : Nat} {ah : aHp} {A : Nat → Nat} {S : Nat → aE} {f : Nat → Nat → Int32} {n q t : Nat} {d : Int32} {tx sp : Nat} {hT eC tL st : Int32} {g hc : Nat → Nat}
noncomputable def wrS (g : Nat → Nat) (q : Nat) (copy known : Int32) : Int32 := if ¬ (0 ≤ known.toInt ∧ known.toInt ≤ 9999) then 5 else if ¬ (1 ≤ copy.toInt ∧ copy.toInt ≤ g q) then 8 else 0
noncomputable def wrV (f : Nat → Nat → Int32) (g hc : Nat → Nat) (t q : Nat) (copy known : Int32) : Int32 := if wrS g q copy known = 0 then wrg f t (hc (pIdx g copy.toInt q)) known 0 40 0 else -1
theorem x_wrong (hO : XO E ah A) (hX : S 0 = xO A tx sp hT eC tL st) (h : plS A S f n q t d) (hv : PIv f n q g hc) {copy known : Int32} : EV E (c + 2) 177 [.ref (A 0), .int copy, .int known] (oh E ah A S) (some (.int (wrV f g hc t q copy known))) (oh E ah A (su S 0 (xO A tx sp hT eC tL (wrS g q copy known)))) := by
  have hq := h.2.2.2.2.2.2.2.2.2.1
  have h' : ∀ st, plS A (su S 0 (xO A tx sp hT eC tL st)) f n q t d := fun st => h.x
  refine e177 ?_
  unfold xO at h' hX ⊢
  have hpo := pof_all hv hq (x := copy)
  by_cases h1 : 1 ≤ copy.toInt ∧ copy.toInt ≤ g q
  · rw [if_pos h1] at hpo
    have hi := pIdx_lt hv h1.1 h1.2
    obtain ⟨-, -, -, e1, e2⟩ := hv.2 _ hi
    by_cases h2 : 0 ≤ known.toInt ∧ known.toInt ≤ 9999
    · have h3 : ¬ known < 0 ∧ ¬ 9999 < known := by simp only [i32_lt, i32_le, i64_lt, i64_le, i2l_toInt, Int32.reduceToInt, Int64.reduceToInt]; omega
      have e3 : wrS g q copy known = 0 := by simp [wrS, h1, h2]
      simp only [r177_0, r177_1, r177_4, r177_8, r177_9, r177_10, r177_13, r177_17, r177_20, r177_21, r177_22, r177_25, r177_28, r177_29, r177_30, r177_31, r177_34, r177_36, r177_39, r177_40, r177_43, r177_44, r177_47, r177_50, r177_51, r177_54, r177_55, r177_59, r177_62, r177_63, hx_0 hO, hX, oGF_is, WPo_some, List.getElem?_cons_succ, List.getElem?_cons_zero, kil_n, kil_i, kil_a, kil_u, kil_l, Option.toList_some, Option.toList_none, List.cons_append, List.nil_append, List.set_cons_succ, List.set_cons_zero, addm1, Nat.reduceAdd, List.length_cons, List.length_nil, Nat.reduceLT, q177_5 (c_printingOf (h.PL hO)) (hO.c46 h), q177_14 c_isDay (hO.c46 h), hpo, b2i_eq0, h3, nI_m1 (show pIdx g copy.toInt q < 1000 by omega), pf_10150, sx_0 hO, su, not_true_eq_false, not_false_eq_true, if_true, if_false, or_self, and_self, true_and, and_true, or_true, true_or, false_or, or_false, false_and, and_false, q177_56 (c_wrongRows ((h' 0).PL hO) hi e1 e2) (hO.c46 (h' 0)), e3, wrV]
    · have h3 : ¬ (¬ known < 0 ∧ ¬ 9999 < known) := by simp only [i32_lt, i32_le, i64_lt, i64_le, i2l_toInt, Int32.reduceToInt, Int64.reduceToInt]; omega
      have e3 : wrS g q copy known = 5 := by simp [wrS, h2]
      simp only [r177_0, r177_1, r177_4, r177_8, r177_9, r177_10, r177_13, r177_17, r177_20, r177_21, r177_22, r177_25, r177_28, r177_29, r177_30, r177_31, r177_34, r177_36, r177_39, r177_40, r177_43, r177_44, r177_47, r177_50, r177_51, r177_54, r177_55, r177_59, r177_62, r177_63, hx_0 hO, hX, oGF_is, WPo_some, List.getElem?_cons_succ, List.getElem?_cons_zero, kil_n, kil_i, kil_a, kil_u, kil_l, Option.toList_some, Option.toList_none, List.cons_append, List.nil_append, List.set_cons_succ, List.set_cons_zero, addm1, Nat.reduceAdd, List.length_cons, List.length_nil, Nat.reduceLT, q177_5 (c_printingOf (h.PL hO)) (hO.c46 h), q177_14 c_isDay (hO.c46 h), hpo, b2i_eq0, h3, pf_10150, sx_0 hO, su, not_true_eq_false, not_false_eq_true, if_true, if_false, or_self, and_self, true_and, and_true, or_true, true_or, false_or, or_false, false_and, and_false, e3, wrV]
      simp
  · rw [if_neg h1] at hpo
    by_cases h2 : 0 ≤ known.toInt ∧ known.toInt ≤ 9999
    · have h3 : ¬ known < 0 ∧ ¬ 9999 < known := by simp only [i32_lt, i32_le, i64_lt, i64_le, i2l_toInt, Int32.reduceToInt, Int64.reduceToInt]; omega
      have e3 : wrS g q copy known = 8 := by simp [wrS, h1, h2]
      simp only [r177_0, r177_1, r177_4, r177_8, r177_9, r177_10, r177_13, r177_17, r177_20, r177_21, r177_22, r177_25, r177_28, r177_29, r177_30, r177_31, r177_34, r177_36, r177_39, r177_40, r177_43, r177_44, r177_47, r177_50, r177_51, r177_54, r177_55, r177_59, r177_62, r177_63, hx_0 hO, hX, oGF_is, WPo_some, List.getElem?_cons_succ, List.getElem?_cons_zero, kil_n, kil_i, kil_a, kil_u, kil_l, Option.toList_some, Option.toList_none, List.cons_append, List.nil_append, List.set_cons_succ, List.set_cons_zero, addm1, Nat.reduceAdd, List.length_cons, List.length_nil, Nat.reduceLT, q177_5 (c_printingOf (h.PL hO)) (hO.c46 h), q177_14 c_isDay (hO.c46 h), hpo, b2i_eq0, h3, pf_10150, sx_0 hO, su, not_true_eq_false, not_false_eq_true, if_true, if_false, or_self, and_self, true_and, and_true, or_true, true_or, false_or, or_false, false_and, and_false, e3, wrV]
      simp
    · have h3 : ¬ (¬ known < 0 ∧ ¬ 9999 < known) := by simp only [i32_lt, i32_le, i64_lt, i64_le, i2l_toInt, Int32.reduceToInt, Int64.reduceToInt]; omega
      have e3 : wrS g q copy known = 5 := by simp [wrS, h2]
      simp only [r177_0, r177_1, r177_4, r177_8, r177_9, r177_10, r177_13, r177_17, r177_20, r177_21, r177_22, r177_25, r177_28, r177_29, r177_30, r177_31, r177_34, r177_36, r177_39, r177_40, r177_43, r177_44, r177_47, r177_50, r177_51, r177_54, r177_55, r177_59, r177_62, r177_63, hx_0 hO, hX, oGF_is, WPo_some, List.getElem?_cons_succ, List.getElem?_cons_zero, kil_n, kil_i, kil_a, kil_u, kil_l, Option.toList_some, Option.toList_none, List.cons_append, List.nil_append, List.set_cons_succ, List.set_cons_zero, addm1, Nat.reduceAdd, List.length_cons, List.length_nil, Nat.reduceLT, q177_5 (c_printingOf (h.PL hO)) (hO.c46 h), q177_14 c_isDay (hO.c46 h), hpo, b2i_eq0, h3, pf_10150, sx_0 hO, su, not_true_eq_false, not_false_eq_true, if_true, if_false, or_self, and_self, true_and, and_true, or_true, true_or, false_or, or_false, false_and, and_false, e3, wrV]
      simp
/-- bad copies from printing i on -/
noncomputable def bdc (f : Nat → Nat → Int32) (g hc : Nat → Nat) (t : Nat) (known : Int32) : Nat → Nat → Int32 → Int32
  | _, 0, w => w
  | i, k + 1, w => bdc f g hc t known (i + 1) k (if 0 < wrg f t (hc i) known 0 40 0 then w + (nI (g (i + 1)) - nI (g i)) else w)
theorem l_bad {p : Nat} {ad : Nat → Nat} (h : PL E ah p ad f n q t d) (hv : PIv f n q g hc) (known : Int32) : ∀ k i w, i + k = q → WP E (c + 2) 131 4 [some (.ref p), some (.int known), some (.int w), some (.int (nI i))] [] ah (fun r1 x1 => r1 = some (.int (bdc f g hc t known i k w)) ∧ x1 = ah)
  | 0, i, w, hk => by
    have hq := h.2.2.2.2.2.2.2.2.2.1
    have h1 : nI q ≤ nI i := nI_le (by omega) (by omega)
    rw [r131_4]
    simp only [r131_5, r131_6, r131_9, r131_42, r131_43, h.o, plO, oGF_is, WPo_some, List.getElem?_cons_succ, List.getElem?_cons_zero, kil_n, kil_i, kil_a, kil_u, kil_l, Option.toList_some, Option.toList_none, List.cons_append, List.nil_append, List.set_cons_succ, List.set_cons_zero, addm1, Nat.reduceAdd, List.length_cons, List.length_nil, Nat.reduceLT, h1, if_true, bdc]
    simp
  | k + 1, i, w, hk => by
    have hq := h.2.2.2.2.2.2.2.2.2.1
    have h1 : ¬ nI q ≤ nI i := nI_ge (by omega) (by omega)
    obtain ⟨e1, -, -, e2, e3⟩ := hv.2 i (by omega)
    have hcb : ∀ c, EV E c 126 [.ref p, .int (nI i)] ah (some (.int (nI (g i)))) ah := fun c => by
      have h2 := c_copiesBefore (c := c) h (i := i) (by omega)
      have h3 := hv.cp (i := i) (by omega)
      unfold cpz at h3
      rw [h3] at h2
      exact h2
    rw [r131_4]
    simp only [r131_0, r131_1, r131_2, r131_3, r131_5, r131_6, r131_9, r131_12, r131_13, r131_14, r131_18, r131_21, r131_22, r131_23, r131_26, r131_27, r131_28, r131_29, r131_33, r131_34, r131_35, r131_36, r131_39, r131_42, r131_43, h.o, plO, oGF_is, WPo_some, List.getElem?_cons_succ, List.getElem?_cons_zero, kil_n, kil_i, kil_a, kil_u, kil_l, Option.toList_some, Option.toList_none, List.cons_append, List.nil_append, List.set_cons_succ, List.set_cons_zero, addm1, Nat.reduceAdd, List.length_cons, List.length_nil, Nat.reduceLT, h1, if_false, q131_15 (c_wrongRows h (show i < q by omega) e2 e3) h.ci, gI_at h.2.2.2.1 (vp_in_nI (show i < 20 by omega) (by omega)), nI_clamp (show i < 2 ^ 31 by omega), e1, q131_30 (hcb _) h.ci, nI_1, bdc]
    by_cases h2 : 0 < wrg f t (hc i) known 0 40 0
    · have h3 : ¬ wrg f t (hc i) known 0 40 0 ≤ 0 := by simpa using h2
      simp only [h2, h3, if_true, if_false]
      exact l_bad h hv known k (i + 1) _ (by omega)
    · have h3 : wrg f t (hc i) known 0 40 0 ≤ 0 := by simpa using h2
      simp only [h2, h3, if_true, if_false]
      exact l_bad h hv known k (i + 1) _ (by omega)
theorem c_badCopies {p : Nat} {ad : Nat → Nat} (h : PL E ah p ad f n q t d) (hv : PIv f n q g hc) {known : Int32} : EV E (c + 2) 131 [.ref p, .int known] ah (some (.int (bdc f g hc t known 0 q 0))) ah := by
  refine e131 ?_
  simp only [r131_0, r131_1, r131_2, r131_3, oGF_is, WPo_some, List.getElem?_cons_succ, List.getElem?_cons_zero, kil_n, kil_i, kil_a, kil_u, kil_l, Option.toList_some, Option.toList_none, List.cons_append, List.nil_append, List.set_cons_succ, List.set_cons_zero, addm1, Nat.reduceAdd, List.length_cons, List.length_nil, Nat.reduceLT]
  exact l_bad h hv known q 0 0 (by omega)
noncomputable def bdS (known : Int32) : Int32 := if ¬ (0 ≤ known.toInt ∧ known.toInt ≤ 9999) then 5 else 0
noncomputable def bdV (f : Nat → Nat → Int32) (g hc : Nat → Nat) (t q : Nat) (known : Int32) : Int32 := if bdS known = 0 then bdc f g hc t known 0 q 0 else -1
theorem x_bad (hO : XO E ah A) (hX : S 0 = xO A tx sp hT eC tL st) (h : plS A S f n q t d) (hv : PIv f n q g hc) {known : Int32} : EV E (c + 3) 178 [.ref (A 0), .int known] (oh E ah A S) (some (.int (bdV f g hc t q known))) (oh E ah A (su S 0 (xO A tx sp hT eC tL (bdS known)))) := by
  have h' : ∀ st, plS A (su S 0 (xO A tx sp hT eC tL st)) f n q t d := fun st => h.x
  refine e178 ?_
  unfold xO at h' hX ⊢
  by_cases h2 : 0 ≤ known.toInt ∧ known.toInt ≤ 9999
  · have h3 : ¬ known < 0 ∧ ¬ 9999 < known := by simp only [i32_lt, i32_le, i64_lt, i64_le, i2l_toInt, Int32.reduceToInt, Int64.reduceToInt]; omega
    have e3 : bdS known = 0 := by simp [bdS, h2]
    simp only [r178_0, r178_1, r178_2, r178_5, r178_9, r178_12, r178_13, r178_16, r178_17, r178_20, r178_21, r178_24, r178_27, r178_28, r178_31, r178_35, r178_38, r178_39, hx_0 hO, hX, oGF_is, WPo_some, List.getElem?_cons_succ, List.getElem?_cons_zero, kil_n, kil_i, kil_a, kil_u, kil_l, Option.toList_some, Option.toList_none, List.cons_append, List.nil_append, List.set_cons_succ, List.set_cons_zero, addm1, Nat.reduceAdd, List.length_cons, List.length_nil, Nat.reduceLT, q178_6 c_isDay (hO.c46 h), b2i_eq0, h3, pf_10150, sx_0 hO, su, not_true_eq_false, not_false_eq_true, if_true, if_false, or_self, and_self, true_and, and_true, or_true, true_or, false_or, or_false, false_and, and_false, q178_32 (c_badCopies ((h' 0).PL hO) hv) (hO.c46 (h' 0)), e3, bdV]
  · have h3 : ¬ (¬ known < 0 ∧ ¬ 9999 < known) := by simp only [i32_lt, i32_le, i64_lt, i64_le, i2l_toInt, Int32.reduceToInt, Int64.reduceToInt]; omega
    have e3 : bdS known = 5 := by simp [bdS, h2]
    simp only [r178_0, r178_1, r178_2, r178_5, r178_9, r178_12, r178_13, r178_16, r178_17, r178_20, r178_21, r178_24, r178_27, r178_28, r178_31, r178_35, r178_38, r178_39, hx_0 hO, hX, oGF_is, WPo_some, List.getElem?_cons_succ, List.getElem?_cons_zero, kil_n, kil_i, kil_a, kil_u, kil_l, Option.toList_some, Option.toList_none, List.cons_append, List.nil_append, List.set_cons_succ, List.set_cons_zero, addm1, Nat.reduceAdd, List.length_cons, List.length_nil, Nat.reduceLT, q178_6 c_isDay (hO.c46 h), b2i_eq0, h3, pf_10150, sx_0 hO, su, not_true_eq_false, not_false_eq_true, if_true, if_false, or_self, and_self, true_and, and_true, or_true, true_or, false_or, or_false, false_and, and_false, e3, bdV]
    simp
end PLX4

/-! The engine's constructor -/
theorem vupd_ovr {F h : Nat → Int64} {i : Nat} {x : Int64} (hx : x = h i) : vp_updL (ovr F 0 i h) i x = ovr F 0 (i + 1) h := by
  funext p
  unfold vp_updL ovr
  by_cases e : p = i
  · subst e
    rw [if_pos rfl, if_pos (by omega), Nat.sub_zero, hx]
  · rw [if_neg e]
    by_cases e2 : 0 ≤ p ∧ p < 0 + i
    · rw [if_pos e2, if_pos (by omega)]
    · rw [if_neg e2, if_neg (by omega)]
theorem lN_toInt63 {n : Nat} (h : n < 2 ^ 63) : (lN n).toInt = n := by
  unfold lN
  rw [Int64.toInt_ofNat_of_lt h]
theorem mx2 {n : Nat} (h : 2 ≤ n) (h2 : n ≤ 12) : (if (2 : Int64) < lN n then lN n else 2) = lN n := by
  split
  · rfl
  · next z =>
    rw [show (2 : Int64) = lN 2 from rfl, lN_lt (by decide) (by omega)] at z
    rw [show n = 2 by omega]
    rfl
section CTOR
variable {E : aEnv} {c : Nat} {ah : aHp} {A : Nat → Nat} {S : Nat → aE} {K : Nat} {sr : Nat → Int32} {mn : Nat → Nat} {tn : Nat → Nat → Int64}
theorem pS_eSt {ax wh : Nat} {al : Int64} {ms tu : Int32} {ei : Nat → Nat → Int32} {el : Nat → Nat → Int64} : pS S K 11 (eO A K ax wh al ms tu) (eC A K ax wh al ms tu ei el) = eSt A S K ax wh al ms tu ei el := by
  funext k
  unfold pS eSt
  by_cases h1 : k = K
  · rw [if_pos h1, if_pos (by omega), h1, Nat.sub_self]
    rfl
  · rw [if_neg h1]
    by_cases h2 : K < k ∧ k < K + 11
    · rw [if_pos h2, if_pos (by omega)]
    · rw [if_neg h2, if_neg (by omega)]
theorem se_al (h : XB E ah A K) {ax wh : Nat} {al al' : Int64} {ms tu : Int32} {ei : Nat → Nat → Int32} {el : Nat → Nat → Int64} : hs E (oh E ah A (eSt A S K ax wh al ms tu ei el)) (A K) (.inr (2, [.int (nI ax), .int (nI wh), .ref (A (K + 6)), .ref (A (K + 7)), .long al', .ref (A (K + 8)), .ref (A (K + 9)), .ref (A (K + 10)), .ref (A (K + 1)), .ref (A (K + 2)), .ref (A (K + 3)), .ref (A (K + 4)), .ref (A (K + 5)), .int ms, .int tu])) = oh E ah A (eSt A S K ax wh al' ms tu ei el) := by
  have h0 := h.2 0 (by decide)
  rw [Nat.add_zero] at h0
  rw [oh_s h.1 h0]
  congr 1
  funext k
  unfold su eSt
  by_cases z : k = K
  · rw [if_pos z, if_pos (by omega), z, Nat.sub_self]
    rfl
  · rw [if_neg z]
    by_cases y : K ≤ k ∧ k < K + 11
    · rw [if_pos y, if_pos y]
      obtain ⟨q, hq⟩ : ∃ q, k - K = q + 1 := ⟨k - K - 1, by omega⟩
      rw [hq]
      rfl
    · rw [if_neg y, if_neg y]
theorem se_7 (h : XB E ah A K) {ax wh : Nat} {al : Int64} {ms tu : Int32} {ei : Nat → Nat → Int32} {el : Nat → Nat → Int64} {g : Nat → Int64} : hs E (oh E ah A (eSt A S K ax wh al ms tu ei el)) (A (K + 7)) (.inl (1, wh, .inr (.inl g))) = oh E ah A (eSt A S K ax wh al ms tu ei (lu el 7 g)) := by
  refine se_q h (q := 7) (by decide) (fun j hj => ?_)
  rcases (show j = 0 ∨ j = 1 ∨ j = 2 ∨ j = 3 ∨ j = 4 ∨ j = 5 ∨ j = 6 ∨ j = 7 ∨ j = 8 ∨ j = 9 ∨ j = 10 by omega) with rfl | rfl | rfl | rfl | rfl | rfl | rfl | rfl | rfl | rfl | rfl <;> simp [eC, lu]
theorem l_ctor (hB : XB E ah A K) (hO : XO E ah A) (hK : 81 ≤ K) (ht : trS A S sr mn tn) {j axx whh : Nat} (hj : j < 4) (ha : 2 ≤ axx ∧ axx ≤ 7) (hw : 1 ≤ whh ∧ whh ≤ 12) (hwm : whh ≤ mn j) {r : Nat → Nat} (hr : ∀ w, w < whh → tn j w = lN (r w) ∧ 2 ≤ r w ∧ r w ≤ 12) {l1 l2 : Option Value} :
    ∀ z i, i + z = whh → WP E (c + 2) 32 138 [some (.ref (A K)), l1, l2, some (.ref (A (73 + 2 * j))), some (.long (lN (wt r i))), none, some (.int (nI i))] [] (oh E ah A (eSt A S K axx whh 0 0 0 (iu (fun _ _ => 0) 6 (ovr (fun _ => 0) 0 i (fun w => nI (r w)))) (lu (fun _ _ => 0) 7 (ovr (fun _ => 0) 0 i (fun w => lN (wt r w))))))
      (fun r1 x1 => r1 = none ∧ x1 = oh E ah A (eSt A S K axx whh (lN (wt r whh)) 0 0 (iu (fun _ _ => 0) 6 (ovr (fun _ => 0) 0 whh (fun w => nI (r w)))) (lu (fun _ _ => 0) 7 (ovr (fun _ => 0) 0 whh (fun w => lN (wt r w))))))
  | 0, i, hz => by
    rw [show i = whh by omega, r32_138]
    simp (disch := first | assumption | omega | decide | (simp only [List.length_cons, List.length_nil, Nat.reduceAdd, Nat.reduceLT]; done) | fail) only [r32_140, r32_141, r32_144, r32_195, r32_196, r32_198, r32_201, ge_0 hB, oGF_is, WPo_some, List.getElem?_cons_succ, List.getElem?_cons_zero, kil_n, kil_i, kil_a, kil_u, kil_l, Option.toList_some, Option.toList_none, List.cons_append, List.nil_append, List.set_cons_succ, List.set_cons_zero, addm1, Nat.reduceAdd, List.length_cons, List.length_nil, Nat.reduceLT, nI_clamp, nI_toInt, nI_leL, nI_Lle, nI_ltL, nI_Llt, nI_eqL, nI_Leq, nI_leE, nI_ltE, nI_eqE, nI_eqM, nI_add, nI_addL, nI_Ladd, nI_mulL, nI_Lmul, pk_mul, pk_sub, nI_subL, nI_Lsub, i2l_nI, Int.toNat_natCast, Nat.not_lt_zero, Nat.zero_le, ifT, ifF, not_true_eq_false, not_false_eq_true, if_true, if_false, or_self, and_self, true_and, and_true, or_true, true_or, false_or, or_false, false_and, and_false, pf_2041, se_al hB]
  | z + 1, i, hz => by
    have ih := l_ctor hB hO hK ht hj ha hw hwm hr (l1 := l1) (l2 := l2) z (i + 1) (by omega)
    obtain ⟨r1, r2, r3⟩ := hr i (by omega)
    have ht1 : trS A (eSt A S K axx whh 0 0 0 (iu (fun _ _ => 0) 6 (ovr (fun _ => 0) 0 i (fun w => nI (r w)))) (lu (fun _ _ => 0) 7 (ovr (fun _ => 0) 0 i (fun w => lN (wt r w))))) sr mn tn := ht.fr (fun q hq => eSt_o (by omega))
    have hT1 := ht1.TR hO hj
    have m1 := upd_ovr0 (F := fun _ => 0) (i := i) (h := fun w => nI (r w)) (x := nI (r i)) rfl
    have m2 := vupd_ovr (F := fun _ => 0) (i := i) (h := fun w => lN (wt r w)) (x := lN (wt r i)) rfl
    rw [r32_138]
    simp (disch := first | assumption | omega | decide | (simp only [List.length_cons, List.length_nil, Nat.reduceAdd, Nat.reduceLT]; done) | fail) only [r32_140, r32_141, r32_144, r32_147, r32_148, r32_151, r32_153, r32_156, r32_156n, r32_157, ge_0 hB, oGF_is, WPo_some, List.getElem?_cons_succ, List.getElem?_cons_zero, kil_n, kil_i, kil_a, kil_u, kil_l, Option.toList_some, Option.toList_none, List.cons_append, List.nil_append, List.set_cons_succ, List.set_cons_zero, addm1, Nat.reduceAdd, List.length_cons, List.length_nil, Nat.reduceLT, nI_clamp, nI_toInt, nI_leL, nI_Lle, nI_ltL, nI_Llt, nI_eqL, nI_Leq, nI_leE, nI_ltE, nI_eqE, nI_eqM, nI_add, nI_addL, nI_Ladd, nI_mulL, nI_Lmul, pk_mul, pk_sub, nI_subL, nI_Lsub, i2l_nI, Int.toNat_natCast, Nat.not_lt_zero, Nat.zero_le, ifT, ifF, not_true_eq_false, not_false_eq_true, if_true, if_false, or_self, and_self, true_and, and_true, or_true, true_or, false_or, or_false, false_and, and_false, q32_159 (c_at hT1 (show i < mn j by omega)) hT1.ci, q32_162 c_maxL, r1, mx2, r32_165, r32_166, r32_167, r32_168, r32_171, r32_173, r32_175, r32_176, r32_178, r32_179, r32_182, r32_184, r32_185, r32_186, r32_187, r32_189, r32_192, lN_i, gI, pI, pL, ge_6 hB, ge_7 hB, se_6 hB, se_7 hB, iu_at, lu_at, iu_iu, lu_lu, upd_at, m1, m2, ovr0_in, nI_l, lN_mul]
    exact ih
end CTOR

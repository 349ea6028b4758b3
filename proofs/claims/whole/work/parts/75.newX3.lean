/-! The engine's constructor, whole -/
section CTOR2
variable {E : aEnv} {c : Nat} {ah : aHp} {A : Nat → Nat} {S : Nat → aE} {K : Nat} {sr : Nat → Int32} {mn : Nat → Nat} {tn : Nat → Nat → Int64}
theorem x32_1 {a0 a1 a2 a3 a4 a5 a6 : Option Value} {p : Nat} {Q : Option Value → aHp → Prop} : WP E (c + 1) 32 1 [a0, a1, a2, a3, a4, a5, a6] [.ref p] ah Q = WP E (c + 1) 32 4 [a0, a1, a2, a3, a4, a5, a6] [] ah Q := wp_xt (q := ([], ah)) i32_1 rfl rfl rfl (Nat.le_add_left 1 c) (by show wds ([] : List Value) ≤ 8; decide)
theorem c_ctor (h : NW E ah A K) (hK : 81 ≤ K) (ht : trS A S sr mn tn) {j axx whh : Nat} (hj : j < 4) (ha : 2 ≤ axx ∧ axx ≤ 7) (hw : 1 ≤ whh ∧ whh ≤ 12) (hwm : whh ≤ mn j) {r : Nat → Nat} (hr : ∀ w, w < whh → tn j w = lN (r w) ∧ 2 ≤ r w ∧ r w ≤ 12) : EV E (c + 2) 32 [.ref (A K), .int (nI axx), .int (nI whh), .ref (A (73 + 2 * j))] (oh E (ah ++ dR 1) A (su S K (.inr (2, dfl 2)))) none (oh E (ah ++ dR 11) A (eSt A S K axx whh (lN (wt r whh)) 0 0 (iu (fun _ _ => 0) 6 (ovr (fun _ => 0) 0 whh (fun w => nI (r w)))) (lu (fun _ _ => 0) 7 (ovr (fun _ => 0) 0 whh (fun w => lN (wt r w)))))) := by
  refine e32 ?_
  rw [su_pS_1 (f := eC A K axx whh 0 0 0 (fun _ _ => 0) (fun _ _ => 0)), dfl_2]
  have i2 := ix_84 ha.2 hw.2
  have p1 := fun obj r => NW_nR (S := S) h (n := 1) (t := 1) (w := 7) (x := 7) rfl (obj := obj) (f := eC A K axx whh 0 0 0 (fun _ _ => 0) (fun _ _ => 0)) (r := r) (by decide) (by decide) (by decide) rfl
  have p2 := fun obj r => NW_nR (S := S) h (n := 2) (t := 0) (w := 20) (x := 20) rfl (obj := obj) (f := eC A K axx whh 0 0 0 (fun _ _ => 0) (fun _ _ => 0)) (r := r) (by decide) (by decide) (by decide) rfl
  have p3 := fun obj r => NW_nR (S := S) h (n := 3) (t := 0) (w := 20) (x := 20) rfl (obj := obj) (f := eC A K axx whh 0 0 0 (fun _ _ => 0) (fun _ _ => 0)) (r := r) (by decide) (by decide) (by decide) rfl
  have p4 := fun obj r => NW_nR (S := S) h (n := 4) (t := 0) (w := 20) (x := 20) rfl (obj := obj) (f := eC A K axx whh 0 0 0 (fun _ _ => 0) (fun _ _ => 0)) (r := r) (by decide) (by decide) (by decide) rfl
  have p5 := fun obj r => NW_nR (S := S) h (n := 5) (t := 0) (w := 20) (x := 20) rfl (obj := obj) (f := eC A K axx whh 0 0 0 (fun _ _ => 0) (fun _ _ => 0)) (r := r) (by decide) (by decide) (by decide) rfl
  have p6 := fun obj r => NW_nR (S := S) h (n := 6) (t := 0) (w := whh) (x := nI whh) rfl (obj := obj) (f := eC A K axx whh 0 0 0 (fun _ _ => 0) (fun _ _ => 0)) (r := r) (by decide) (by decide) (by omega) rfl
  have p7 := fun obj r => NW_nR (S := S) h (n := 7) (t := 1) (w := whh) (x := nI whh) rfl (obj := obj) (f := eC A K axx whh 0 0 0 (fun _ _ => 0) (fun _ _ => 0)) (r := r) (by decide) (by decide) (by omega) rfl
  have p8 := fun obj r => NW_nR (S := S) h (n := 8) (t := 0) (w := axx * whh) (x := nI (axx * whh)) rfl (obj := obj) (f := eC A K axx whh 0 0 0 (fun _ _ => 0) (fun _ _ => 0)) (r := r) (by decide) (by decide) (by omega) rfl
  have p9 := fun obj r => NW_nR (S := S) h (n := 9) (t := 0) (w := axx * whh) (x := nI (axx * whh)) rfl (obj := obj) (f := eC A K axx whh 0 0 0 (fun _ _ => 0) (fun _ _ => 0)) (r := r) (by decide) (by decide) (by omega) rfl
  have p10 := fun obj r => NW_nR (S := S) h (n := 10) (t := 3) (w := whh) (x := nI whh) rfl (obj := obj) (f := eC A K axx whh 0 0 0 (fun _ _ => 0) (fun _ _ => 0)) (r := r) (by decide) (by decide) (by omega) rfl
  simp only [Nat.reduceAdd] at p1 p2 p3 p4 p5 p6 p7 p8 p9 p10
  have hg : ∀ n obj, 1 ≤ n → hg E (oh E (ah ++ dR n) A (pS S K n obj (eC A K axx whh 0 0 0 (fun _ _ => 0) (fun _ _ => 0)))) (A K) = some obj := fun n obj hn => (NW_hg h (by omega)).trans (by rw [pS_K])
  have hs : ∀ n obj e, 1 ≤ n → hs E (oh E (ah ++ dR n) A (pS S K n obj (eC A K axx whh 0 0 0 (fun _ _ => 0) (fun _ _ => 0)))) (A K) e = oh E (ah ++ dR n) A (pS S K n e (eC A K axx whh 0 0 0 (fun _ _ => 0) (fun _ _ => 0))) := fun n obj e hn => (NW_hs h (by omega)).trans (by rw [su_pS])
  have a1 : (if axx < 7 then nI axx else 7) = nI axx := by
    split
    · rfl
    · rw [show axx = 7 by omega]; rfl
  have a2 : (if 2 < axx then nI axx else 2) = nI axx := by
    split
    · rfl
    · rw [show axx = 2 by omega]; rfl
  have a3 : (if whh < 12 then nI whh else 12) = nI whh := by
    split
    · rfl
    · rw [show whh = 12 by omega]; rfl
  have a4 : (if 1 < whh then nI whh else 1) = nI whh := by
    split
    · rfl
    · rw [show whh = 1 by omega]; rfl
  have hB : XB E (ah ++ dR 11) A K := ⟨h.1, fun q hq => h.g (by omega)⟩
  have hO : XO E (ah ++ dR 11) A := ⟨h.1, fun k hk => h.g (by omega)⟩
  have l1 := l_ctor (c := c) hB hO hK ht hj ha hw hwm hr (l1 := some (.int (nI axx))) (l2 := some (.int (nI whh))) whh 0 (by omega)
  rw [ovr_0, ovr_0, show iu (fun _ _ => (0 : Int32)) 6 (fun _ => 0) = fun _ _ => 0 from iu_self, show lu (fun _ _ => (0 : Int64)) 7 (fun _ => 0) = fun _ _ => 0 from lu_self] at l1
  simp (disch := first | assumption | omega | decide | (simp only [List.length_cons, List.length_nil, Nat.reduceAdd, Nat.reduceLT]; done) | fail) only [r32_0, x32_1, r32_4, r32_5, r32_7, r32_9, r32_12, r32_13, r32_15, r32_17, r32_20, r32_21, r32_23, r32_25, r32_28, r32_29, r32_31, r32_33, r32_36, r32_37, r32_39, r32_41, r32_44, r32_45, r32_46, r32_48, r32_55, r32_58, r32_59, r32_60, r32_62, r32_69, r32_72, r32_73, r32_74, r32_77, r32_79, r32_82, r32_83, r32_84, r32_87, r32_89, r32_92, r32_93, r32_94, r32_97, r32_98, r32_101, r32_102, r32_104, r32_107, r32_108, r32_109, r32_112, r32_113, r32_116, r32_117, r32_119, r32_122, r32_123, r32_124, r32_127, r32_129, r32_132, r32_133, r32_135, r32_136, p1, p2, p3, p4, p5, p6, p7, p8, p9, p10, hg, hs, oGF_is, WPo_some, List.getElem?_cons_succ, List.getElem?_cons_zero, kil_n, kil_i, kil_a, kil_u, kil_l, Option.toList_some, Option.toList_none, List.cons_append, List.nil_append, List.set_cons_succ, List.set_cons_zero, addm1, Nat.reduceAdd, List.length_cons, List.length_nil, Nat.reduceLT, pf_2082, pf_2092, pf_2102, pf_2112, pf_2122, pf_2000, pf_2010, pf_2022, pf_2032, pf_2052, pf_2062, pf_2072, q32_49 c_min, q32_52 c_max, q32_63 c_min, q32_66 c_max, nI_clamp, nI_toInt, nI_leL, nI_Lle, nI_ltL, nI_Llt, nI_eqL, nI_Leq, nI_leE, nI_ltE, nI_eqE, nI_eqM, nI_add, nI_addL, nI_Ladd, nI_mulL, nI_Lmul, pk_mul, pk_sub, nI_subL, nI_Lsub, i2l_nI, Int.toNat_natCast, Nat.not_lt_zero, Nat.zero_le, ifT, ifF, a1, a2, a3, a4]
  rw [← pS_eSt (ax := axx) (wh := whh) (al := 0) (ms := 0) (tu := 0) (ei := fun _ _ => 0) (el := fun _ _ => 0)] at l1
  exact l1
end CTOR2

/-! The class' own constructor, whole -/
section KX2
variable {E : aEnv} {c : Nat} {A : Nat → Nat} {S : Nat → aE}
theorem kx_3 (h : NW E [] A 0) {obj : aE} : EV E (c + 1) 73 [.ref (A 3)] (oh E (dR 3 ++ dR 1) A (su (pS S 0 3 obj (Sg A 0)) 3 (.inr (4, dfl 4)))) none (oh E (dR 8) A (pS S 0 8 obj (Sg A 0))) := by
  have k : EV E (c + 1) 73 [.ref (A 3)] (oh E (dR 3 ++ dR 1) A (su (pS S 0 3 obj (Sg A 0)) 3 (.inr (4, dfl 4)))) none (oh E (dR 3 ++ dR 5) A (pS (pS S 0 3 obj (Sg A 0)) 3 5 (Sg A 0 3) (fun i => Sg A 0 (3 + i)))) := k_73 (c := c) (S := pS S 0 3 obj (Sg A 0)) (NW_0 h (n := 3) (by omega)) (by unfold dR; simp) (F := fun i => Sg A 0 (3 + i)) rfl rfl rfl rfl
  rw [dR_dR (m := 5), pS_pS (by omega) (by omega)] at k
  exact k
theorem kx_8 (h : NW E [] A 0) {obj : aE} : EV E (c + 1) 83 [.ref (A 8)] (oh E (dR 8 ++ dR 1) A (su (pS S 0 8 obj (Sg A 0)) 8 (.inr (5, dfl 5)))) none (oh E (dR 13) A (pS S 0 13 obj (Sg A 0))) := by
  have k : EV E (c + 1) 83 [.ref (A 8)] (oh E (dR 8 ++ dR 1) A (su (pS S 0 8 obj (Sg A 0)) 8 (.inr (5, dfl 5)))) none (oh E (dR 8 ++ dR 5) A (pS (pS S 0 8 obj (Sg A 0)) 8 5 (Sg A 0 8) (fun i => Sg A 0 (8 + i)))) := k_83 (c := c) (S := pS S 0 8 obj (Sg A 0)) (NW_0 h (n := 8) (by omega)) (by unfold dR; simp) (F := fun i => Sg A 0 (8 + i)) rfl rfl rfl rfl
  rw [dR_dR (m := 5), pS_pS (by omega) (by omega)] at k
  exact k
theorem kx_14 (h : NW E [] A 0) {obj : aE} : EV E (c + 1) 0 [.ref (A 14)] (oh E (dR 14 ++ dR 1) A (su (pS S 0 14 obj (Sg A 0)) 14 (.inr (0, dfl 0)))) none (oh E (dR 16) A (pS S 0 16 obj (Sg A 0))) := by
  have k : EV E (c + 1) 0 [.ref (A 14)] (oh E (dR 14 ++ dR 1) A (su (pS S 0 14 obj (Sg A 0)) 14 (.inr (0, dfl 0)))) none (oh E (dR 14 ++ dR 2) A (pS (pS S 0 14 obj (Sg A 0)) 14 2 (Sg A 0 14) (fun i => Sg A 0 (14 + i)))) := k_0 (c := c) (S := pS S 0 14 obj (Sg A 0)) (NW_0 h (n := 14) (by omega)) (by unfold dR; simp) (F := fun i => Sg A 0 (14 + i)) rfl
  rw [dR_dR (m := 2), pS_pS (by omega) (by omega)] at k
  exact k
theorem kx_16 (h : NW E [] A 0) {obj : aE} : EV E (c + 1) 97 [.ref (A 16)] (oh E (dR 16 ++ dR 1) A (su (pS S 0 16 obj (Sg A 0)) 16 (.inr (7, dfl 7)))) none (oh E (dR 19) A (pS S 0 19 obj (Sg A 0))) := by
  have k : EV E (c + 1) 97 [.ref (A 16)] (oh E (dR 16 ++ dR 1) A (su (pS S 0 16 obj (Sg A 0)) 16 (.inr (7, dfl 7)))) none (oh E (dR 16 ++ dR 3) A (pS (pS S 0 16 obj (Sg A 0)) 16 3 (Sg A 0 16) (fun i => Sg A 0 (16 + i)))) := k_97 (c := c) (S := pS S 0 16 obj (Sg A 0)) (NW_0 h (n := 16) (by omega)) (by unfold dR; simp) (F := fun i => Sg A 0 (16 + i)) rfl rfl
  rw [dR_dR (m := 3), pS_pS (by omega) (by omega)] at k
  exact k
theorem kx_19 (h : NW E [] A 0) {obj : aE} : EV E (c + 1) 54 [.ref (A 19)] (oh E (dR 19 ++ dR 1) A (su (pS S 0 19 obj (Sg A 0)) 19 (.inr (3, dfl 3)))) none (oh E (dR 46) A (pS S 0 46 obj (Sg A 0))) := by
  have k : EV E (c + 1) 54 [.ref (A 19)] (oh E (dR 19 ++ dR 1) A (su (pS S 0 19 obj (Sg A 0)) 19 (.inr (3, dfl 3)))) none (oh E (dR 19 ++ dR 27) A (pS (pS S 0 19 obj (Sg A 0)) 19 27 (Sg A 0 19) (fun i => Sg A 0 (19 + i)))) := k_54 (c := c) (S := pS S 0 19 obj (Sg A 0)) (NW_0 h (n := 19) (by omega)) (by unfold dR; simp) (F := fun i => Sg A 0 (19 + i)) rfl rfl rfl (fun j hj => S0_row (by omega) (by omega)) rfl rfl rfl
  rw [dR_dR (m := 27), pS_pS (by omega) (by omega)] at k
  exact k
theorem kx_46 (h : NW E [] A 0) {obj : aE} : EV E (c + 1) 116 [.ref (A 46)] (oh E (dR 46 ++ dR 1) A (su (pS S 0 46 obj (Sg A 0)) 46 (.inr (8, dfl 8)))) none (oh E (dR 54) A (pS S 0 54 obj (Sg A 0))) := by
  have k : EV E (c + 1) 116 [.ref (A 46)] (oh E (dR 46 ++ dR 1) A (su (pS S 0 46 obj (Sg A 0)) 46 (.inr (8, dfl 8)))) none (oh E (dR 46 ++ dR 8) A (pS (pS S 0 46 obj (Sg A 0)) 46 8 (Sg A 0 46) (fun i => Sg A 0 (46 + i)))) := k_116 (c := c) (S := pS S 0 46 obj (Sg A 0)) (NW_0 h (n := 46) (by omega)) (by unfold dR; simp) (F := fun i => Sg A 0 (46 + i)) rfl rfl rfl rfl rfl rfl rfl
  rw [dR_dR (m := 8), pS_pS (by omega) (by omega)] at k
  exact k
theorem kx_54 (h : NW E [] A 0) {obj : aE} : EV E (c + 1) 87 [.ref (A 54)] (oh E (dR 54 ++ dR 1) A (su (pS S 0 54 obj (Sg A 0)) 54 (.inr (6, dfl 6)))) none (oh E (dR 61) A (pS S 0 61 obj (Sg A 0))) := by
  have k : EV E (c + 1) 87 [.ref (A 54)] (oh E (dR 54 ++ dR 1) A (su (pS S 0 54 obj (Sg A 0)) 54 (.inr (6, dfl 6)))) none (oh E (dR 54 ++ dR 7) A (pS (pS S 0 54 obj (Sg A 0)) 54 7 (Sg A 0 54) (fun i => Sg A 0 (54 + i)))) := k_87 (c := c) (S := pS S 0 54 obj (Sg A 0)) (NW_0 h (n := 54) (by omega)) (by unfold dR; simp) (F := fun i => Sg A 0 (54 + i)) rfl rfl rfl rfl rfl rfl
  rw [dR_dR (m := 7), pS_pS (by omega) (by omega)] at k
  exact k
theorem kx_61 (h : NW E [] A 0) {obj : aE} : EV E (c + 1) 16 [.ref (A 61)] (oh E (dR 61 ++ dR 1) A (su (pS S 0 61 obj (Sg A 0)) 61 (.inr (1, dfl 1)))) none (oh E (dR 67) A (pS S 0 67 obj (Sg A 0))) := by
  have k : EV E (c + 1) 16 [.ref (A 61)] (oh E (dR 61 ++ dR 1) A (su (pS S 0 61 obj (Sg A 0)) 61 (.inr (1, dfl 1)))) none (oh E (dR 61 ++ dR 6) A (pS (pS S 0 61 obj (Sg A 0)) 61 6 (Sg A 0 61) (fun i => Sg A 0 (61 + i)))) := k_16 (c := c) (S := pS S 0 61 obj (Sg A 0)) (NW_0 h (n := 61) (by omega)) (by unfold dR; simp) (F := fun i => Sg A 0 (61 + i)) rfl rfl rfl rfl rfl
  rw [dR_dR (m := 6), pS_pS (by omega) (by omega)] at k
  exact k
theorem kx_67 (h : NW E [] A 0) {obj : aE} : EV E (c + 1) 16 [.ref (A 67)] (oh E (dR 67 ++ dR 1) A (su (pS S 0 67 obj (Sg A 0)) 67 (.inr (1, dfl 1)))) none (oh E (dR 73) A (pS S 0 73 obj (Sg A 0))) := by
  have k : EV E (c + 1) 16 [.ref (A 67)] (oh E (dR 67 ++ dR 1) A (su (pS S 0 67 obj (Sg A 0)) 67 (.inr (1, dfl 1)))) none (oh E (dR 67 ++ dR 6) A (pS (pS S 0 67 obj (Sg A 0)) 67 6 (Sg A 0 67) (fun i => Sg A 0 (67 + i)))) := k_16 (c := c) (S := pS S 0 67 obj (Sg A 0)) (NW_0 h (n := 67) (by omega)) (by unfold dR; simp) (F := fun i => Sg A 0 (67 + i)) rfl rfl rfl rfl rfl
  rw [dR_dR (m := 6), pS_pS (by omega) (by omega)] at k
  exact k
theorem k_144 (h : NW E [] A 0) : EV E (c + 2) 144 [.ref (A 0)] (oh E (dR 1) A (su S 0 (.inr (10, dfl 10)))) none (oh E (dR 81) A (pS S 0 81 (xO A 61 67 0 0 0 0) (S0 A))) := by
  refine e144 ?_
  rw [su_pS_1 (f := Sg A 0), dfl_10]
  have f1 : (Sum.inl (4, aZ 4 4) : aE) = Sg A 0 1 := by
    show _ = trw A 0
    unfold trw aZ
    refine congrArg (fun g => (Sum.inl (4, 4, Sum.inr (Sum.inr (Sum.inr (Sum.inr g)))) : aE)) (funext fun j => ?_)
    rw [if_neg (by omega)]
  have p1 := fun obj r => N0_nR (S := S) h (n := 1) (t := 4) (w := 4) (x := 4) rfl (obj := obj) (f := Sg A 0) (r := r) (by decide) (by decide) (by decide) f1
  have p2 := fun obj r => N0_nR (S := S) h (n := 2) (t := 5) (w := 4) (x := 4) rfl (obj := obj) (f := Sg A 0) (r := r) (by decide) (by decide) (by decide) rfl
  have p3 := fun obj r => N0_nR (S := S) h (n := 13) (t := 2) (w := 500) (x := 500) rfl (obj := obj) (f := Sg A 0) (r := r) (by decide) (by decide) (by decide) rfl
  simp only [Nat.reduceAdd] at p1 p2 p3
  have hg : ∀ n obj, 1 ≤ n → hg E (oh E (dR n) A (pS S 0 n obj (Sg A 0))) (A 0) = some obj := fun n obj hn => (N0_hg h (by omega)).trans (by rw [pS_K])
  have hs : ∀ n obj e, 1 ≤ n → hs E (oh E (dR n) A (pS S 0 n obj (Sg A 0))) (A 0) e = oh E (dR n) A (pS S 0 n e (Sg A 0)) := fun n obj e hn => (N0_hs h (by omega)).trans (by rw [su_pS])
  have no := fun n ci (hn : n < 900) (hc : ci ≤ 11) T st => NW_nO h (n := n) (ci := ci) hn hc (T := T) (st := st)
  have lk := l_kt (c := c) (S := S) h (eC := 0) (tL := 0) (st := 0) 4 0 rfl
  simp only [Nat.mul_zero, Nat.add_zero] at lk
  rw [show nI 0 = (0 : Int32) from rfl] at lk
  simp (disch := first | assumption | omega | decide | (simp only [List.length_cons, List.length_nil, Nat.reduceAdd, Nat.reduceLT]; done) | fail) only [r144_0, x144_1, r144_4, r144_5, r144_6, r144_9, r144_12, r144_13, r144_14, r144_17, r144_20, r144_21, r144_24, r144_24i, r144_28, r144_31, r144_32, r144_35, r144_35i, r144_39, r144_42, r144_43, r144_46, r144_48, r144_51, r144_52, r144_55, r144_55i, r144_59, r144_62, r144_63, r144_66, r144_66i, r144_70, r144_73, r144_74, r144_77, r144_77i, r144_81, r144_84, r144_85, r144_88, r144_88i, r144_92, r144_95, r144_96, r144_99, r144_99i, r144_103, r144_106, r144_107, r144_110, r144_110i, r144_114, r144_117, r144_118, r144_121, r144_121i, r144_125, r144_128, r144_129, p1, p2, p3, hg, hs, no, q144_25 (kx_3 h), q144_36 (kx_8 h), q144_56 (kx_14 h), q144_67 (kx_16 h), q144_78 (kx_19 h), q144_89 (kx_46 h), q144_100 (kx_54 h), q144_111 (kx_61 h), q144_122 (kx_67 h), oGF_is, WPo_some, List.getElem?_cons_succ, List.getElem?_cons_zero, kil_n, kil_i, kil_a, kil_u, kil_l, Option.toList_some, Option.toList_none, List.cons_append, List.nil_append, List.set_cons_succ, List.set_cons_zero, addm1, Nat.reduceAdd, List.length_cons, List.length_nil, Nat.reduceLT, not_true_eq_false, not_false_eq_true, if_true, if_false, or_self, and_self, true_and, and_true, or_true, true_or, false_or, or_false, false_and, and_false, pf_10002, pf_10012, pf_10022, pf_10032, pf_10042, pf_10052, pf_10062, pf_10072, pf_10082, pf_10092, pf_10102, pf_10112]
  exact lk
end KX2

/-! The constructors: each makes its cells behind the others -/
section PUSH2
variable {E : aEnv} {ah : aHp} {A : Nat → Nat} {S : Nat → aE} {K : Nat}
theorem NV_nR (h : NW E ah A K) {n t w : Nat} {x : Int32} (hx : x = nI w) {obj : aE} {f : Nat → aE} {r : List Value} (hn : 1 ≤ n) (hn2 : ah.length + n < 1000) (hw : w ≤ 5000) (hf : .inl (t, aZ t w) = f n) : nR E (oh E (ah ++ dR n) A (pS S K n obj f)) t (.int x :: r) = some (.ref (A (K + n)) :: r, oh E (ah ++ dR (n + 1)) A (pS S K (n + 1) obj f)) := by
  subst hx
  unfold nR
  dsimp only
  rw [nI_clamp (by omega), oh_len, dR_len, if_neg, h.push, su_pS_n hn hf, h.2.2.1, Nat.add_assoc]
  unfold wid lim
  simp only [not_or]
  refine ⟨?_, by omega, by omega⟩
  rw [nI_ltL (by omega) (by decide)]
  omega
theorem NV_list (h : NW E ah A K) {obj : aE} {f : Nat → aE} : ∀ (l : aHp) (n : Nat), 1 ≤ n → (∀ i e, l[i]? = some e → e = f (n + i)) → oh E (ah ++ dR n) A (pS S K n obj f) ++ l = oh E (ah ++ dR (n + l.length)) A (pS S K (n + l.length) obj f)
  | [], n, hn, hl => by rw [List.append_nil]; rfl
  | e :: l, n, hn, hl => by
    have h0 := hl 0 e rfl
    have ih := NV_list h (obj := obj) l (n + 1) (by omega) (fun i x hx => by
      have := hl (i + 1) x hx
      rw [this, Nat.add_assoc, Nat.add_comm i 1])
    rw [show e :: l = [e] ++ l from rfl, ← List.append_assoc, h.push, su_pS_n hn h0, ih, show n + 1 + l.length = n + ([e] ++ l).length by simp; omega]
theorem NV_nM (h : NW E ah A K) {n : Nat} {obj : aE} {f : Nat → aE} {r : List Value} (hn : 1 ≤ n) (hn2 : ah.length + n < 900) (h0 : f n = .inl (6, 20, .inr (.inr (.inr (.inr (fun j => if j < 20 then some (A (K + n + 1 + j)) else none)))))) (hf : ∀ j, j < 20 → f (n + (j + 1)) = .inl (0, 79, .inl (fun _ => 0))) : nM E (oh E (ah ++ dR n) A (pS S K n obj f)) (.int 79 :: .int 20 :: r) = some (.ref (A (K + n)) :: r, oh E (ah ++ dR (n + 21)) A (pS S K (n + 21) obj f)) := by
  have e1 : E.1 + (ah.length + n) = A (K + n) := by rw [h.2.2.1]; omega
  have e2 : ∀ j, E.1 + (ah.length + n) + 1 + j = A (K + n + 1 + j) := fun j => by rw [Nat.add_assoc, Nat.add_assoc K, Nat.add_assoc K, h.2.2.1]; omega
  unfold nM
  dsimp only
  rw [show Int32.toNatClampNeg 20 = 20 by decide, show Int32.toNatClampNeg 79 = 79 by decide, oh_len, dR_len, if_neg]
  · simp only [e2]
    rw [e1, NV_list h _ n hn]
    · simp only [List.length_cons, List.length_replicate]
    · intro i e he
      cases i with
      | zero =>
        rw [Nat.add_zero, h0]
        exact (Option.some.inj he).symm
      | succ i =>
        have he : (List.replicate 20 (Sum.inl (0, 79, Sum.inl (fun _ => (0 : Int32)))) : aHp)[i]? = some e := he
        rw [List.getElem?_replicate] at he
        split at he
        next hi => rw [hf i hi]; exact (Option.some.inj he).symm
        · exact nomatch he
  · unfold wid lim
    simp only [not_or]
    refine ⟨by decide, by decide, by decide, by decide, by omega⟩
end PUSH2
theorem dfl_0 : dfl 0 = [.null, .int 0, .int 0, .int 0, .int 0, .long 0, .int 0, .int 0] := by rfl
theorem dfl_1 : dfl 1 = [.null, .null, .null, .null, .null, .int 0] := by rfl
theorem dfl_3 : dfl 3 = [.null, .null, .null, .null, .null, .null, .int 0, .int 0, .int 0, .int 0, .long 0, .long 0] := by rfl
theorem dfl_4 : dfl 4 = [.null, .null, .null, .null, .int 0, .int 0, .int 0, .int 0, .int 0] := by rfl
theorem dfl_5 : dfl 5 = [.null, .null, .null, .null] := by rfl
theorem dfl_6 : dfl 6 = [.null, .null, .null, .null, .null, .null, .int 0, .int 0, .int 0] := by rfl
theorem dfl_7 : dfl 7 = [.null, .null, .int 0, .int 0, .int 0, .int 0, .int 0, .int 0, .int 0, .int 0] := by rfl
theorem dfl_8 : dfl 8 = [.null, .null, .null, .null, .null, .null, .null, .int 0, .int 0, .int 0, .int 0] := by rfl
theorem dfl_9 : dfl 9 = [.null, .int 0, .int 0] := by rfl
theorem dfl_10 : dfl 10 = [.null, .null, .null, .null, .null, .null, .null, .null, .null, .null, .null, .null, .int 0, .int 0, .int 0, .int 0] := by rfl
section KON
variable {E : aEnv} {c : Nat} {ah : aHp} {A : Nat → Nat} {S : Nat → aE} {K : Nat}
theorem x0_1 {a0 : Option Value} {p : Nat} {Q : Option Value → aHp → Prop} : WP E (c + 1) 0 1 [a0] [.ref p] ah Q = WP E (c + 1) 0 4 [a0] [] ah Q := wp_xt (q := ([], ah)) i0_1 rfl rfl rfl (Nat.le_add_left 1 c) (by show wds ([] : List Value) ≤ 8; decide)
theorem k_0 (h : NW E ah A K) (hl : ah.length < 800) {F : Nat → aE} (f1 : .inl (2, aZ 2 0) = F 1) : EV E (c + 1) 0 [.ref (A K)] (oh E (ah ++ dR 1) A (su S K (.inr (0, dfl 0)))) none (oh E (ah ++ dR 2) A (pS S K 2 (.inr (0, [.ref (A (K + 1)), .int 0, .int 0, .int 0, .int 0, .long 0, .int (-1), .int (-1)])) F)) := by
  refine e0 ?_
  rw [su_pS_1 (f := F), dfl_0]
  have p1 := fun obj r => NV_nR (S := S) h (n := 1) (t := 2) (w := 0) (x := 0) rfl (obj := obj) (f := F) (r := r) (by decide) (by omega) (by decide) f1
  simp only [Nat.reduceAdd] at p1
  have hg : ∀ n obj, 1 ≤ n → hg E (oh E (ah ++ dR n) A (pS S K n obj F)) (A K) = some obj := fun n obj hn => (NW_hg h (by omega)).trans (by rw [pS_K])
  have hs : ∀ n obj e, 1 ≤ n → hs E (oh E (ah ++ dR n) A (pS S K n obj F)) (A K) e = oh E (ah ++ dR n) A (pS S K n e F) := fun n obj e hn => (NW_hs h (by omega)).trans (by rw [su_pS])
  simp (disch := first | assumption | omega | decide | (simp only [List.length_cons, List.length_nil, Nat.reduceAdd, Nat.reduceLT]; done) | fail) only [r0_0, x0_1, r0_4, r0_5, r0_6, r0_8, r0_11, r0_12, r0_13, r0_16, r0_17, r0_18, r0_21, p1, hg, hs, oGF_is, WPo_some, List.getElem?_cons_succ, List.getElem?_cons_zero, kil_n, kil_i, kil_a, kil_u, kil_l, Option.toList_some, Option.toList_none, List.cons_append, List.nil_append, List.set_cons_succ, List.set_cons_zero, addm1, Nat.reduceAdd, List.length_cons, List.length_nil, Nat.reduceLT, not_true_eq_false, not_false_eq_true, if_true, if_false, or_self, and_self, true_and, and_true, or_true, true_or, false_or, or_false, false_and, and_false, pf_2, pf_60, pf_70]
theorem x16_1 {a0 : Option Value} {p : Nat} {Q : Option Value → aHp → Prop} : WP E (c + 1) 16 1 [a0] [.ref p] ah Q = WP E (c + 1) 16 4 [a0] [] ah Q := wp_xt (q := ([], ah)) i16_1 rfl rfl rfl (Nat.le_add_left 1 c) (by show wds ([] : List Value) ≤ 8; decide)
theorem k_16 (h : NW E ah A K) (hl : ah.length < 800) {F : Nat → aE} (f1 : .inl (0, aZ 0 40) = F 1) (f2 : .inl (0, aZ 0 40) = F 2) (f3 : .inl (0, aZ 0 160) = F 3) (f4 : .inl (0, aZ 0 40) = F 4) (f5 : .inl (1, aZ 1 40) = F 5) : EV E (c + 1) 16 [.ref (A K)] (oh E (ah ++ dR 1) A (su S K (.inr (1, dfl 1)))) none (oh E (ah ++ dR 6) A (pS S K 6 (.inr (1, [.ref (A (K + 1)), .ref (A (K + 2)), .ref (A (K + 3)), .ref (A (K + 4)), .ref (A (K + 5)), .int 0])) F)) := by
  refine e16 ?_
  rw [su_pS_1 (f := F), dfl_1]
  have p1 := fun obj r => NV_nR (S := S) h (n := 1) (t := 0) (w := 40) (x := 40) rfl (obj := obj) (f := F) (r := r) (by decide) (by omega) (by decide) f1
  have p2 := fun obj r => NV_nR (S := S) h (n := 2) (t := 0) (w := 40) (x := 40) rfl (obj := obj) (f := F) (r := r) (by decide) (by omega) (by decide) f2
  have p3 := fun obj r => NV_nR (S := S) h (n := 3) (t := 0) (w := 160) (x := 160) rfl (obj := obj) (f := F) (r := r) (by decide) (by omega) (by decide) f3
  have p4 := fun obj r => NV_nR (S := S) h (n := 4) (t := 0) (w := 40) (x := 40) rfl (obj := obj) (f := F) (r := r) (by decide) (by omega) (by decide) f4
  have p5 := fun obj r => NV_nR (S := S) h (n := 5) (t := 1) (w := 40) (x := 40) rfl (obj := obj) (f := F) (r := r) (by decide) (by omega) (by decide) f5
  simp only [Nat.reduceAdd] at p1 p2 p3 p4 p5
  have hg : ∀ n obj, 1 ≤ n → hg E (oh E (ah ++ dR n) A (pS S K n obj F)) (A K) = some obj := fun n obj hn => (NW_hg h (by omega)).trans (by rw [pS_K])
  have hs : ∀ n obj e, 1 ≤ n → hs E (oh E (ah ++ dR n) A (pS S K n obj F)) (A K) e = oh E (ah ++ dR n) A (pS S K n e F) := fun n obj e hn => (NW_hs h (by omega)).trans (by rw [su_pS])
  simp (disch := first | assumption | omega | decide | (simp only [List.length_cons, List.length_nil, Nat.reduceAdd, Nat.reduceLT]; done) | fail) only [r16_0, x16_1, r16_4, r16_5, r16_7, r16_9, r16_12, r16_13, r16_15, r16_17, r16_20, r16_21, r16_24, r16_26, r16_29, r16_30, r16_32, r16_34, r16_37, r16_38, r16_40, r16_42, r16_45, p1, p2, p3, p4, p5, hg, hs, oGF_is, WPo_some, List.getElem?_cons_succ, List.getElem?_cons_zero, kil_n, kil_i, kil_a, kil_u, kil_l, Option.toList_some, Option.toList_none, List.cons_append, List.nil_append, List.set_cons_succ, List.set_cons_zero, addm1, Nat.reduceAdd, List.length_cons, List.length_nil, Nat.reduceLT, not_true_eq_false, not_false_eq_true, if_true, if_false, or_self, and_self, true_and, and_true, or_true, true_or, false_or, or_false, false_and, and_false, pf_1002, pf_1012, pf_1022, pf_1032, pf_1042]
theorem x54_1 {a0 : Option Value} {p : Nat} {Q : Option Value → aHp → Prop} : WP E (c + 1) 54 1 [a0] [.ref p] ah Q = WP E (c + 1) 54 4 [a0] [] ah Q := wp_xt (q := ([], ah)) i54_1 rfl rfl rfl (Nat.le_add_left 1 c) (by show wds ([] : List Value) ≤ 8; decide)
theorem k_54 (h : NW E ah A K) (hl : ah.length < 800) {F : Nat → aE} (f1 : .inl (0, aZ 0 20) = F 1) (f2 : .inl (1, aZ 1 20) = F 2) (f3 : F 3 = .inl (6, 20, .inr (.inr (.inr (.inr (fun j => if j < 20 then some (A (K + 3 + 1 + j)) else none)))))) (g3 : ∀ j, j < 20 → F (3 + (j + 1)) = .inl (0, 79, .inl (fun _ => 0))) (f24 : .inl (0, aZ 0 20) = F 24) (f25 : .inl (0, aZ 0 2) = F 25) (f26 : .inl (0, aZ 0 2) = F 26) : EV E (c + 1) 54 [.ref (A K)] (oh E (ah ++ dR 1) A (su S K (.inr (3, dfl 3)))) none (oh E (ah ++ dR 27) A (pS S K 27 (.inr (3, [.ref (A (K + 1)), .ref (A (K + 2)), .ref (A (K + 3)), .ref (A (K + 24)), .ref (A (K + 25)), .ref (A (K + 26)), .int 0, .int 0, .int 0, .int 0, .long 0, .long 0])) F)) := by
  refine e54 ?_
  rw [su_pS_1 (f := F), dfl_3]
  have p1 := fun obj r => NV_nR (S := S) h (n := 1) (t := 0) (w := 20) (x := 20) rfl (obj := obj) (f := F) (r := r) (by decide) (by omega) (by decide) f1
  have p2 := fun obj r => NV_nR (S := S) h (n := 2) (t := 1) (w := 20) (x := 20) rfl (obj := obj) (f := F) (r := r) (by decide) (by omega) (by decide) f2
  have p3 := fun obj r => NV_nM (S := S) h (n := 3) (obj := obj) (f := F) (r := r) (by decide) (by omega) f3 g3
  have p24 := fun obj r => NV_nR (S := S) h (n := 24) (t := 0) (w := 20) (x := 20) rfl (obj := obj) (f := F) (r := r) (by decide) (by omega) (by decide) f24
  have p25 := fun obj r => NV_nR (S := S) h (n := 25) (t := 0) (w := 2) (x := 2) rfl (obj := obj) (f := F) (r := r) (by decide) (by omega) (by decide) f25
  have p26 := fun obj r => NV_nR (S := S) h (n := 26) (t := 0) (w := 2) (x := 2) rfl (obj := obj) (f := F) (r := r) (by decide) (by omega) (by decide) f26
  simp only [Nat.reduceAdd] at p1 p2 p3 p24 p25 p26
  have hg : ∀ n obj, 1 ≤ n → hg E (oh E (ah ++ dR n) A (pS S K n obj F)) (A K) = some obj := fun n obj hn => (NW_hg h (by omega)).trans (by rw [pS_K])
  have hs : ∀ n obj e, 1 ≤ n → hs E (oh E (ah ++ dR n) A (pS S K n obj F)) (A K) e = oh E (ah ++ dR n) A (pS S K n e F) := fun n obj e hn => (NW_hs h (by omega)).trans (by rw [su_pS])
  simp (disch := first | assumption | omega | decide | (simp only [List.length_cons, List.length_nil, Nat.reduceAdd, Nat.reduceLT]; done) | fail) only [r54_0, x54_1, r54_4, r54_5, r54_7, r54_9, r54_12, r54_13, r54_15, r54_17, r54_20, r54_21, r54_23, r54_25, r54_29, r54_32, r54_33, r54_35, r54_37, r54_40, r54_41, r54_42, r54_44, r54_47, r54_48, r54_49, r54_51, r54_54, p1, p2, p3, p24, p25, p26, hg, hs, oGF_is, WPo_some, List.getElem?_cons_succ, List.getElem?_cons_zero, kil_n, kil_i, kil_a, kil_u, kil_l, Option.toList_some, Option.toList_none, List.cons_append, List.nil_append, List.set_cons_succ, List.set_cons_zero, addm1, Nat.reduceAdd, List.length_cons, List.length_nil, Nat.reduceLT, not_true_eq_false, not_false_eq_true, if_true, if_false, or_self, and_self, true_and, and_true, or_true, true_or, false_or, or_false, false_and, and_false, pf_3002, pf_3012, pf_3022, pf_3032, pf_3042, pf_3052]
theorem x73_1 {a0 : Option Value} {p : Nat} {Q : Option Value → aHp → Prop} : WP E (c + 1) 73 1 [a0] [.ref p] ah Q = WP E (c + 1) 73 4 [a0] [] ah Q := wp_xt (q := ([], ah)) i73_1 rfl rfl rfl (Nat.le_add_left 1 c) (by show wds ([] : List Value) ≤ 8; decide)
theorem k_73 (h : NW E ah A K) (hl : ah.length < 800) {F : Nat → aE} (f1 : .inl (1, aZ 1 7) = F 1) (f2 : .inl (1, aZ 1 7) = F 2) (f3 : .inl (1, aZ 1 7) = F 3) (f4 : .inl (1, aZ 1 60) = F 4) : EV E (c + 1) 73 [.ref (A K)] (oh E (ah ++ dR 1) A (su S K (.inr (4, dfl 4)))) none (oh E (ah ++ dR 5) A (pS S K 5 (.inr (4, [.ref (A (K + 1)), .ref (A (K + 2)), .ref (A (K + 3)), .ref (A (K + 4)), .int 0, .int 0, .int 0, .int 0, .int 0])) F)) := by
  refine e73 ?_
  rw [su_pS_1 (f := F), dfl_4]
  have p1 := fun obj r => NV_nR (S := S) h (n := 1) (t := 1) (w := 7) (x := 7) rfl (obj := obj) (f := F) (r := r) (by decide) (by omega) (by decide) f1
  have p2 := fun obj r => NV_nR (S := S) h (n := 2) (t := 1) (w := 7) (x := 7) rfl (obj := obj) (f := F) (r := r) (by decide) (by omega) (by decide) f2
  have p3 := fun obj r => NV_nR (S := S) h (n := 3) (t := 1) (w := 7) (x := 7) rfl (obj := obj) (f := F) (r := r) (by decide) (by omega) (by decide) f3
  have p4 := fun obj r => NV_nR (S := S) h (n := 4) (t := 1) (w := 60) (x := 60) rfl (obj := obj) (f := F) (r := r) (by decide) (by omega) (by decide) f4
  simp only [Nat.reduceAdd] at p1 p2 p3 p4
  have hg : ∀ n obj, 1 ≤ n → hg E (oh E (ah ++ dR n) A (pS S K n obj F)) (A K) = some obj := fun n obj hn => (NW_hg h (by omega)).trans (by rw [pS_K])
  have hs : ∀ n obj e, 1 ≤ n → hs E (oh E (ah ++ dR n) A (pS S K n obj F)) (A K) e = oh E (ah ++ dR n) A (pS S K n e F) := fun n obj e hn => (NW_hs h (by omega)).trans (by rw [su_pS])
  simp (disch := first | assumption | omega | decide | (simp only [List.length_cons, List.length_nil, Nat.reduceAdd, Nat.reduceLT]; done) | fail) only [r73_0, x73_1, r73_4, r73_5, r73_7, r73_9, r73_12, r73_13, r73_15, r73_17, r73_20, r73_21, r73_23, r73_25, r73_28, r73_29, r73_31, r73_33, r73_36, p1, p2, p3, p4, hg, hs, oGF_is, WPo_some, List.getElem?_cons_succ, List.getElem?_cons_zero, kil_n, kil_i, kil_a, kil_u, kil_l, Option.toList_some, Option.toList_none, List.cons_append, List.nil_append, List.set_cons_succ, List.set_cons_zero, addm1, Nat.reduceAdd, List.length_cons, List.length_nil, Nat.reduceLT, not_true_eq_false, not_false_eq_true, if_true, if_false, or_self, and_self, true_and, and_true, or_true, true_or, false_or, or_false, false_and, and_false, pf_4002, pf_4012, pf_4022, pf_4032]
theorem x83_1 {a0 : Option Value} {p : Nat} {Q : Option Value → aHp → Prop} : WP E (c + 1) 83 1 [a0] [.ref p] ah Q = WP E (c + 1) 83 4 [a0] [] ah Q := wp_xt (q := ([], ah)) i83_1 rfl rfl rfl (Nat.le_add_left 1 c) (by show wds ([] : List Value) ≤ 8; decide)
theorem k_83 (h : NW E ah A K) (hl : ah.length < 800) {F : Nat → aE} (f1 : .inl (1, aZ 1 5) = F 1) (f2 : .inl (1, aZ 1 5) = F 2) (f3 : .inl (1, aZ 1 5) = F 3) (f4 : .inl (1, aZ 1 5) = F 4) : EV E (c + 1) 83 [.ref (A K)] (oh E (ah ++ dR 1) A (su S K (.inr (5, dfl 5)))) none (oh E (ah ++ dR 5) A (pS S K 5 (.inr (5, [.ref (A (K + 1)), .ref (A (K + 2)), .ref (A (K + 3)), .ref (A (K + 4))])) F)) := by
  refine e83 ?_
  rw [su_pS_1 (f := F), dfl_5]
  have p1 := fun obj r => NV_nR (S := S) h (n := 1) (t := 1) (w := 5) (x := 5) rfl (obj := obj) (f := F) (r := r) (by decide) (by omega) (by decide) f1
  have p2 := fun obj r => NV_nR (S := S) h (n := 2) (t := 1) (w := 5) (x := 5) rfl (obj := obj) (f := F) (r := r) (by decide) (by omega) (by decide) f2
  have p3 := fun obj r => NV_nR (S := S) h (n := 3) (t := 1) (w := 5) (x := 5) rfl (obj := obj) (f := F) (r := r) (by decide) (by omega) (by decide) f3
  have p4 := fun obj r => NV_nR (S := S) h (n := 4) (t := 1) (w := 5) (x := 5) rfl (obj := obj) (f := F) (r := r) (by decide) (by omega) (by decide) f4
  simp only [Nat.reduceAdd] at p1 p2 p3 p4
  have hg : ∀ n obj, 1 ≤ n → hg E (oh E (ah ++ dR n) A (pS S K n obj F)) (A K) = some obj := fun n obj hn => (NW_hg h (by omega)).trans (by rw [pS_K])
  have hs : ∀ n obj e, 1 ≤ n → hs E (oh E (ah ++ dR n) A (pS S K n obj F)) (A K) e = oh E (ah ++ dR n) A (pS S K n e F) := fun n obj e hn => (NW_hs h (by omega)).trans (by rw [su_pS])
  simp (disch := first | assumption | omega | decide | (simp only [List.length_cons, List.length_nil, Nat.reduceAdd, Nat.reduceLT]; done) | fail) only [r83_0, x83_1, r83_4, r83_5, r83_6, r83_8, r83_11, r83_12, r83_13, r83_15, r83_18, r83_19, r83_20, r83_22, r83_25, r83_26, r83_27, r83_29, r83_32, p1, p2, p3, p4, hg, hs, oGF_is, WPo_some, List.getElem?_cons_succ, List.getElem?_cons_zero, kil_n, kil_i, kil_a, kil_u, kil_l, Option.toList_some, Option.toList_none, List.cons_append, List.nil_append, List.set_cons_succ, List.set_cons_zero, addm1, Nat.reduceAdd, List.length_cons, List.length_nil, Nat.reduceLT, not_true_eq_false, not_false_eq_true, if_true, if_false, or_self, and_self, true_and, and_true, or_true, true_or, false_or, or_false, false_and, and_false, pf_5002, pf_5012, pf_5022, pf_5032]
theorem x87_1 {a0 : Option Value} {p : Nat} {Q : Option Value → aHp → Prop} : WP E (c + 1) 87 1 [a0] [.ref p] ah Q = WP E (c + 1) 87 4 [a0] [] ah Q := wp_xt (q := ([], ah)) i87_1 rfl rfl rfl (Nat.le_add_left 1 c) (by show wds ([] : List Value) ≤ 8; decide)
theorem k_87 (h : NW E ah A K) (hl : ah.length < 800) {F : Nat → aE} (f1 : .inl (0, aZ 0 7) = F 1) (f2 : .inl (0, aZ 0 7) = F 2) (f3 : .inl (0, aZ 0 7) = F 3) (f4 : .inl (0, aZ 0 7) = F 4) (f5 : .inl (0, aZ 0 7) = F 5) (f6 : .inl (0, aZ 0 4) = F 6) : EV E (c + 1) 87 [.ref (A K)] (oh E (ah ++ dR 1) A (su S K (.inr (6, dfl 6)))) none (oh E (ah ++ dR 7) A (pS S K 7 (.inr (6, [.ref (A (K + 1)), .ref (A (K + 2)), .ref (A (K + 3)), .ref (A (K + 4)), .ref (A (K + 5)), .ref (A (K + 6)), .int 0, .int 0, .int 0])) F)) := by
  refine e87 ?_
  rw [su_pS_1 (f := F), dfl_6]
  have p1 := fun obj r => NV_nR (S := S) h (n := 1) (t := 0) (w := 7) (x := 7) rfl (obj := obj) (f := F) (r := r) (by decide) (by omega) (by decide) f1
  have p2 := fun obj r => NV_nR (S := S) h (n := 2) (t := 0) (w := 7) (x := 7) rfl (obj := obj) (f := F) (r := r) (by decide) (by omega) (by decide) f2
  have p3 := fun obj r => NV_nR (S := S) h (n := 3) (t := 0) (w := 7) (x := 7) rfl (obj := obj) (f := F) (r := r) (by decide) (by omega) (by decide) f3
  have p4 := fun obj r => NV_nR (S := S) h (n := 4) (t := 0) (w := 7) (x := 7) rfl (obj := obj) (f := F) (r := r) (by decide) (by omega) (by decide) f4
  have p5 := fun obj r => NV_nR (S := S) h (n := 5) (t := 0) (w := 7) (x := 7) rfl (obj := obj) (f := F) (r := r) (by decide) (by omega) (by decide) f5
  have p6 := fun obj r => NV_nR (S := S) h (n := 6) (t := 0) (w := 4) (x := 4) rfl (obj := obj) (f := F) (r := r) (by decide) (by omega) (by decide) f6
  simp only [Nat.reduceAdd] at p1 p2 p3 p4 p5 p6
  have hg : ∀ n obj, 1 ≤ n → hg E (oh E (ah ++ dR n) A (pS S K n obj F)) (A K) = some obj := fun n obj hn => (NW_hg h (by omega)).trans (by rw [pS_K])
  have hs : ∀ n obj e, 1 ≤ n → hs E (oh E (ah ++ dR n) A (pS S K n obj F)) (A K) e = oh E (ah ++ dR n) A (pS S K n e F) := fun n obj e hn => (NW_hs h (by omega)).trans (by rw [su_pS])
  simp (disch := first | assumption | omega | decide | (simp only [List.length_cons, List.length_nil, Nat.reduceAdd, Nat.reduceLT]; done) | fail) only [r87_0, x87_1, r87_4, r87_5, r87_7, r87_9, r87_12, r87_13, r87_15, r87_17, r87_20, r87_21, r87_23, r87_25, r87_28, r87_29, r87_31, r87_33, r87_36, r87_37, r87_39, r87_41, r87_44, r87_45, r87_46, r87_48, r87_51, p1, p2, p3, p4, p5, p6, hg, hs, oGF_is, WPo_some, List.getElem?_cons_succ, List.getElem?_cons_zero, kil_n, kil_i, kil_a, kil_u, kil_l, Option.toList_some, Option.toList_none, List.cons_append, List.nil_append, List.set_cons_succ, List.set_cons_zero, addm1, Nat.reduceAdd, List.length_cons, List.length_nil, Nat.reduceLT, not_true_eq_false, not_false_eq_true, if_true, if_false, or_self, and_self, true_and, and_true, or_true, true_or, false_or, or_false, false_and, and_false, pf_6002, pf_6012, pf_6022, pf_6032, pf_6042, pf_6052]
theorem x97_1 {a0 : Option Value} {p : Nat} {Q : Option Value → aHp → Prop} : WP E (c + 1) 97 1 [a0] [.ref p] ah Q = WP E (c + 1) 97 4 [a0] [] ah Q := wp_xt (q := ([], ah)) i97_1 rfl rfl rfl (Nat.le_add_left 1 c) (by show wds ([] : List Value) ≤ 8; decide)
theorem k_97 (h : NW E ah A K) (hl : ah.length < 800) {F : Nat → aE} (f1 : .inl (1, aZ 1 20) = F 1) (f2 : .inl (1, aZ 1 40) = F 2) : EV E (c + 1) 97 [.ref (A K)] (oh E (ah ++ dR 1) A (su S K (.inr (7, dfl 7)))) none (oh E (ah ++ dR 3) A (pS S K 3 (.inr (7, [.ref (A (K + 1)), .ref (A (K + 2)), .int 0, .int 0, .int 0, .int 0, .int 0, .int 0, .int 0, .int 0])) F)) := by
  refine e97 ?_
  rw [su_pS_1 (f := F), dfl_7]
  have p1 := fun obj r => NV_nR (S := S) h (n := 1) (t := 1) (w := 20) (x := 20) rfl (obj := obj) (f := F) (r := r) (by decide) (by omega) (by decide) f1
  have p2 := fun obj r => NV_nR (S := S) h (n := 2) (t := 1) (w := 40) (x := 40) rfl (obj := obj) (f := F) (r := r) (by decide) (by omega) (by decide) f2
  simp only [Nat.reduceAdd] at p1 p2
  have hg : ∀ n obj, 1 ≤ n → hg E (oh E (ah ++ dR n) A (pS S K n obj F)) (A K) = some obj := fun n obj hn => (NW_hg h (by omega)).trans (by rw [pS_K])
  have hs : ∀ n obj e, 1 ≤ n → hs E (oh E (ah ++ dR n) A (pS S K n obj F)) (A K) e = oh E (ah ++ dR n) A (pS S K n e F) := fun n obj e hn => (NW_hs h (by omega)).trans (by rw [su_pS])
  simp (disch := first | assumption | omega | decide | (simp only [List.length_cons, List.length_nil, Nat.reduceAdd, Nat.reduceLT]; done) | fail) only [r97_0, x97_1, r97_4, r97_5, r97_7, r97_9, r97_12, r97_13, r97_15, r97_17, r97_20, p1, p2, hg, hs, oGF_is, WPo_some, List.getElem?_cons_succ, List.getElem?_cons_zero, kil_n, kil_i, kil_a, kil_u, kil_l, Option.toList_some, Option.toList_none, List.cons_append, List.nil_append, List.set_cons_succ, List.set_cons_zero, addm1, Nat.reduceAdd, List.length_cons, List.length_nil, Nat.reduceLT, not_true_eq_false, not_false_eq_true, if_true, if_false, or_self, and_self, true_and, and_true, or_true, true_or, false_or, or_false, false_and, and_false, pf_7002, pf_7012]
theorem x116_1 {a0 : Option Value} {p : Nat} {Q : Option Value → aHp → Prop} : WP E (c + 1) 116 1 [a0] [.ref p] ah Q = WP E (c + 1) 116 4 [a0] [] ah Q := wp_xt (q := ([], ah)) i116_1 rfl rfl rfl (Nat.le_add_left 1 c) (by show wds ([] : List Value) ≤ 8; decide)
theorem k_116 (h : NW E ah A K) (hl : ah.length < 800) {F : Nat → aE} (f1 : .inl (0, aZ 0 100) = F 1) (f2 : .inl (0, aZ 0 100) = F 2) (f3 : .inl (0, aZ 0 20) = F 3) (f4 : .inl (0, aZ 0 20) = F 4) (f5 : .inl (0, aZ 0 60) = F 5) (f6 : .inl (0, aZ 0 60) = F 6) (f7 : .inl (0, aZ 0 60) = F 7) : EV E (c + 1) 116 [.ref (A K)] (oh E (ah ++ dR 1) A (su S K (.inr (8, dfl 8)))) none (oh E (ah ++ dR 8) A (pS S K 8 (.inr (8, [.ref (A (K + 1)), .ref (A (K + 2)), .ref (A (K + 3)), .ref (A (K + 4)), .ref (A (K + 5)), .ref (A (K + 6)), .ref (A (K + 7)), .int 0, .int 0, .int 0, .int 0])) F)) := by
  refine e116 ?_
  rw [su_pS_1 (f := F), dfl_8]
  have p1 := fun obj r => NV_nR (S := S) h (n := 1) (t := 0) (w := 100) (x := 100) rfl (obj := obj) (f := F) (r := r) (by decide) (by omega) (by decide) f1
  have p2 := fun obj r => NV_nR (S := S) h (n := 2) (t := 0) (w := 100) (x := 100) rfl (obj := obj) (f := F) (r := r) (by decide) (by omega) (by decide) f2
  have p3 := fun obj r => NV_nR (S := S) h (n := 3) (t := 0) (w := 20) (x := 20) rfl (obj := obj) (f := F) (r := r) (by decide) (by omega) (by decide) f3
  have p4 := fun obj r => NV_nR (S := S) h (n := 4) (t := 0) (w := 20) (x := 20) rfl (obj := obj) (f := F) (r := r) (by decide) (by omega) (by decide) f4
  have p5 := fun obj r => NV_nR (S := S) h (n := 5) (t := 0) (w := 60) (x := 60) rfl (obj := obj) (f := F) (r := r) (by decide) (by omega) (by decide) f5
  have p6 := fun obj r => NV_nR (S := S) h (n := 6) (t := 0) (w := 60) (x := 60) rfl (obj := obj) (f := F) (r := r) (by decide) (by omega) (by decide) f6
  have p7 := fun obj r => NV_nR (S := S) h (n := 7) (t := 0) (w := 60) (x := 60) rfl (obj := obj) (f := F) (r := r) (by decide) (by omega) (by decide) f7
  simp only [Nat.reduceAdd] at p1 p2 p3 p4 p5 p6 p7
  have hg : ∀ n obj, 1 ≤ n → hg E (oh E (ah ++ dR n) A (pS S K n obj F)) (A K) = some obj := fun n obj hn => (NW_hg h (by omega)).trans (by rw [pS_K])
  have hs : ∀ n obj e, 1 ≤ n → hs E (oh E (ah ++ dR n) A (pS S K n obj F)) (A K) e = oh E (ah ++ dR n) A (pS S K n e F) := fun n obj e hn => (NW_hs h (by omega)).trans (by rw [su_pS])
  simp (disch := first | assumption | omega | decide | (simp only [List.length_cons, List.length_nil, Nat.reduceAdd, Nat.reduceLT]; done) | fail) only [r116_0, x116_1, r116_4, r116_5, r116_7, r116_9, r116_12, r116_13, r116_15, r116_17, r116_20, r116_21, r116_23, r116_25, r116_28, r116_29, r116_31, r116_33, r116_36, r116_37, r116_39, r116_41, r116_44, r116_45, r116_47, r116_49, r116_52, r116_53, r116_55, r116_57, r116_60, p1, p2, p3, p4, p5, p6, p7, hg, hs, oGF_is, WPo_some, List.getElem?_cons_succ, List.getElem?_cons_zero, kil_n, kil_i, kil_a, kil_u, kil_l, Option.toList_some, Option.toList_none, List.cons_append, List.nil_append, List.set_cons_succ, List.set_cons_zero, addm1, Nat.reduceAdd, List.length_cons, List.length_nil, Nat.reduceLT, not_true_eq_false, not_false_eq_true, if_true, if_false, or_self, and_self, true_and, and_true, or_true, true_or, false_or, or_false, false_and, and_false, pf_8002, pf_8012, pf_8022, pf_8032, pf_8042, pf_8052, pf_8062]
theorem x132_1 {a0 : Option Value} {p : Nat} {Q : Option Value → aHp → Prop} : WP E (c + 1) 132 1 [a0] [.ref p] ah Q = WP E (c + 1) 132 4 [a0] [] ah Q := wp_xt (q := ([], ah)) i132_1 rfl rfl rfl (Nat.le_add_left 1 c) (by show wds ([] : List Value) ≤ 8; decide)
theorem k_132 (h : NW E ah A K) (hl : ah.length < 800) {F : Nat → aE} (f1 : .inl (1, aZ 1 60) = F 1) : EV E (c + 1) 132 [.ref (A K)] (oh E (ah ++ dR 1) A (su S K (.inr (9, dfl 9)))) none (oh E (ah ++ dR 2) A (pS S K 2 (.inr (9, [.ref (A (K + 1)), .int (-1), .int 0])) F)) := by
  refine e132 ?_
  rw [su_pS_1 (f := F), dfl_9]
  have p1 := fun obj r => NV_nR (S := S) h (n := 1) (t := 1) (w := 60) (x := 60) rfl (obj := obj) (f := F) (r := r) (by decide) (by omega) (by decide) f1
  simp only [Nat.reduceAdd] at p1
  have hg : ∀ n obj, 1 ≤ n → hg E (oh E (ah ++ dR n) A (pS S K n obj F)) (A K) = some obj := fun n obj hn => (NW_hg h (by omega)).trans (by rw [pS_K])
  have hs : ∀ n obj e, 1 ≤ n → hs E (oh E (ah ++ dR n) A (pS S K n obj F)) (A K) e = oh E (ah ++ dR n) A (pS S K n e F) := fun n obj e hn => (NW_hs h (by omega)).trans (by rw [su_pS])
  simp (disch := first | assumption | omega | decide | (simp only [List.length_cons, List.length_nil, Nat.reduceAdd, Nat.reduceLT]; done) | fail) only [r132_0, x132_1, r132_4, r132_5, r132_7, r132_9, r132_12, r132_13, r132_14, r132_17, p1, hg, hs, oGF_is, WPo_some, List.getElem?_cons_succ, List.getElem?_cons_zero, kil_n, kil_i, kil_a, kil_u, kil_l, Option.toList_some, Option.toList_none, List.cons_append, List.nil_append, List.set_cons_succ, List.set_cons_zero, addm1, Nat.reduceAdd, List.length_cons, List.length_nil, Nat.reduceLT, not_true_eq_false, not_false_eq_true, if_true, if_false, or_self, and_self, true_and, and_true, or_true, true_or, false_or, or_false, false_and, and_false, pf_9002, pf_9010]
end KON

/-! new int[n][m] -/
theorem ml_ok : mG pM0 (.classLink (cnm 3) 19 "[[I") = true := by decide +kernel
theorem vq_outer (c : ClassId) (N h0 : Nat) : ∀ i : Nat, Jvm.Free.Multi.outerC c N h0 i = arrV c N (fun j => va_rf (if j < i then some (h0 + 1 + j) else none))
  | 0 => by
    show ({ cls := c, slots := Array.replicate N .null, vm := .none } : Cell) = _
    rw [arrV_new]
    refine congrArg (arrV c N) (funext fun j => ?_)
    simp [va_rf]
  | i + 1 => by
    show (Jvm.Free.Multi.outerC c N h0 i).setSlot i (.ref (h0 + 1 + i)) = _
    rw [vq_outer c N h0 i, arrV_store]
    refine congrArg (arrV c N) (funext fun j => ?_)
    by_cases e : j = i
    · subst e
      simp [updV, va_rf]
    · by_cases h : j < i
      · simp [updV, e, h, Nat.lt_succ_of_lt h]
      · simp [updV, e, h, show ¬ j < i + 1 by omega]
section STEPM
variable {E : aEnv} {G : aG} {c k : Nat} {p : Program} {l : Launch} {e : Env} {R : Room} {s : State} {m : MethodId} {args : Array Value} {below : List Frame} {meth : Method} {cd : Code} {Q : State → Prop}
variable {pc : Nat} {ls : aLs} {st : List Value} {ah : aHp} {z : Nat × aLs × List Value × aHp}
theorem w_multi (hk : (mrow k).2.2.2.2.2 = 3) (C : Cx E G c k p R s m args meth cd) (hn : s.heap.size ≤ E.1 + ah.length) (hR : RM E R s z.2.2.2) (hd : decode (mrow k).2.1 pc = .ok (.multianewarray 19 2, 4)) (h : st1 E (.multianewarray 6 2) (pc + 4) ls st ah = some z) (kk : KK E G k p l e R s m args below meth cd Q z) : KK E G k p l e R s m args below meth cd Q (pc, ls, st, ah) := by
  obtain ⟨st', h2, rfl⟩ := st1_hw h rfl rfl rfl rfl rfl
  obtain ⟨mm, n, r, rfl, hn0, hm0, hw1, hw2, hlim, rfl⟩ := nM_is h2
  intro H locs Ls hH hS hL T hT Xs
  have Xs : Stand p l e R s m args below meth cd T locs (E.1 + ah.length - s.heap.size) (wid * (E.1 + ah.length - s.heap.size)) := Xs
  have hsz : H.size = E.1 + ah.length := by
    have h1 : T.heap.size ≤ s.heap.size + (E.1 + ah.length - s.heap.size) := Xs.same.2.2.1
    have h2 : s.heap.size ≤ T.heap.size := Xs.same.2.1
    rw [hT] at h1 h2
    rcases Nat.eq_zero_or_pos ah.length with h3 | h3
    · have := C.gs.2.2.2.2.1
      omega
    · have h4 : (aw_ws G.2 E.1 ah)[ah.length - 1]? = some (E.1 + (ah.length - 1), aw_E G.2 ah[ah.length - 1]) := by
        rw [aw_get, List.getElem?_eq_getElem (by omega)]
        rfl
      have h5 : E.1 + (ah.length - 1) < H.size := (hH _ _ h4).lt
      omega
  obtain ⟨r1, r2⟩ := hR
  have hlen : E.1 + (ah ++ (.inl (6, n.toNatClampNeg, .inr (.inr (.inr (.inr (fun j => if j < n.toNatClampNeg then some (E.1 + ah.length + 1 + j) else none))))) :: List.replicate n.toNatClampNeg (.inl (0, mm.toNatClampNeg, .inl (fun _ => 0))) : aHp)).length - s.heap.size = E.1 + ah.length - s.heap.size + 1 + n.toNatClampNeg := by
    simp; omega
  dsimp only at r1 r2
  rw [hlen] at r1 r2
  have hmul : n.toNatClampNeg * mm.toNatClampNeg + n.toNatClampNeg ≤ wid * (1 + n.toNatClampNeg) := by
    have h1 : n.toNatClampNeg * mm.toNatClampNeg ≤ n.toNatClampNeg * wid := Nat.mul_le_mul_left _ hw2
    rw [Nat.mul_add, Nat.mul_comm wid n.toNatClampNeg]
    omega
  have hs2 : wid * (E.1 + ah.length - s.heap.size) + (n.toNatClampNeg + n.toNatClampNeg * mm.toNatClampNeg) ≤ wid * (E.1 + ah.length - s.heap.size + 1 + n.toNatClampNeg) := by
    rw [Nat.add_assoc (E.1 + ah.length - s.heap.size), Nat.mul_add wid (E.1 + ah.length - s.heap.size)]
    omega
  obtain ⟨vm₁, cA, comp, -, fA, fC, hO, -, X', step⟩ := Xs.multianewarray2F C.1 C.own (index := 19) (ty := .int) (C.wd _ (by rw [mrow_cls, hk]; exact mG_in ml_ok)) (C.gs.2.2.2.2.2.2.2) (C.wd _ (mG_in cw_arr.1)) (g := F0 m pc Ls (.int mm :: .int n :: r)) rfl (by rw [C.2.1]; exact hd) rfl hn0 hm0 (Nat.le_trans (Nat.mul_le_mul_right _ hw1) (by decide)) (Nat.le_trans (Nat.mul_le_mul_right _ hw2) (by decide)) (Nat.le_trans hw2 (by decide)) rfl rfl (by omega) (by omega)
  have e1 : cA = G.2 6 := Option.some.inj (fA.symm.trans (C.hK.2 6 _ rfl).2)
  have e2 : comp = G.2 0 := Option.some.inj (fC.symm.trans (C.hK.2 0 _ rfl).2)
  subst e1
  subst e2
  generalize hF : Jvm.Free.Multi.fill (T.setVm vm₁) (G.2 6) (G.2 0) n.toNatClampNeg mm.toNatClampNeg (defaultValue .int) n.toNatClampNeg = F at X' step
  have hTh : (T.setVm vm₁).heap = H := hT
  obtain ⟨f1, f2, -, -⟩ := Jvm.Free.Multi.fill_facts (T.setVm vm₁) (G.2 6) (G.2 0) n.toNatClampNeg mm.toNatClampNeg (defaultValue .int) n.toNatClampNeg
  rw [hF, hTh] at f1 f2
  have hold : ∀ x : Nat, x < H.size → F.heap[x]? = H[x]? := fun x hx => by
    have := Jvm.Free.Multi.fill_old (T.setVm vm₁) (G.2 6) (G.2 0) n.toNatClampNeg mm.toNatClampNeg (defaultValue .int) (a := x) (by rw [hTh]; exact hx) n.toNatClampNeg
    rw [hF, hTh] at this
    exact this
  have hrow : ∀ j : Nat, j < n.toNatClampNeg → F.heap[H.size + 1 + j]? = some (vp_cell (G.2 0) (mm.toNatClampNeg, .inl (fun _ => 0))) := fun j hj => by
    have := Jvm.Free.Multi.fill_inner (T.setVm vm₁) (G.2 6) (G.2 0) n.toNatClampNeg mm.toNatClampNeg (defaultValue .int) n.toNatClampNeg j hj
    rw [hF, hTh] at this
    rw [this, vp_cell_i, ← arrV_new]
    rfl
  rw [vq_outer] at f2
  have hP' : va_P G.1 vwCl (aw_ws G.2 E.1 (ah ++ (.inl (6, n.toNatClampNeg, .inr (.inr (.inr (.inr (fun j => if j < n.toNatClampNeg then some (E.1 + ah.length + 1 + j) else none))))) :: List.replicate n.toNatClampNeg (.inl (0, mm.toNatClampNeg, .inl (fun _ => 0))) : aHp))) F.heap := by
    intro i q hq
    rw [aw_get] at hq
    obtain ⟨x, hx, rfl⟩ := Option.map_eq_some_iff.mp hq
    by_cases h1 : i < ah.length
    · rw [List.getElem?_append_left h1] at hx
      have h3 : va_at G.1 vwCl (E.1 + i, aw_E G.2 x) H := hH i _ (by rw [aw_get, hx]; rfl)
      exact h3.kept (hold _ (by show E.1 + i < H.size; omega))
    · rw [List.getElem?_append_right (by omega)] at hx
      by_cases h3 : i = ah.length
      · subst h3
        rw [Nat.sub_self] at hx
        cases hx
        show F.heap[E.1 + ah.length]? = _
        rw [← hsz, f2]
        rfl
      · obtain ⟨j, hj⟩ : ∃ j, i - ah.length = j + 1 := ⟨i - ah.length - 1, by omega⟩
        rw [hj, List.getElem?_cons_succ, List.getElem?_replicate] at hx
        split at hx
        · next hjn =>
          cases hx
          show F.heap[E.1 + i]? = _
          rw [show E.1 + i = H.size + 1 + j by omega]
          exact hrow j hjn
        · cases hx
  have hS' : va_S (fun q => E.1 ≤ q) s.heap F.heap locs := ⟨Nat.le_trans hS.1 (by omega), fun x h1 h2 => (hold x (Nat.lt_of_lt_of_le h1 hS.1)).trans (hS.2.1 x h1 h2), hS.2.2⟩
  have k1 := kk F.heap locs Ls hP' hS' hL
  have X2 := stand_widen X' (k := E.1 + ah.length - s.heap.size + 1 + n.toNatClampNeg) (n := wid * (E.1 + ah.length - s.heap.size + 1 + n.toNatClampNeg)) (Nat.le_refl _) (by omega)
  rw [← hlen] at X2
  obtain ⟨t, a1, b1⟩ := k1 F rfl X2
  refine ⟨t, step t ?_, b1⟩
  rw [hT, hsz]
  exact a1
end STEPM

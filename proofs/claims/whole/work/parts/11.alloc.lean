/-! one step that makes a new cell -/
section STEPN
variable {E : aEnv} {G : aG} {c k : Nat} {p : Program} {l : Launch} {e : Env} {R : Room} {s : State} {m : MethodId} {args : Array Value} {below : List Frame} {meth : Method} {cd : Code} {Q : State → Prop}
variable {pc : Nat} {ls : aLs} {st : List Value} {ah : aHp} {z : Nat × aLs × List Value × aHp}
theorem aw_fresh {q : Nat} {e' : va_E} (hD : va_D (fun q => E.1 ≤ q) (aw_ws G.2 E.1 ah ++ [(q, e')])) : E.1 + ah.length ≤ q := by
  have hl : (aw_ws G.2 E.1 ah ++ [(q, e')])[ah.length]? = some (q, e') := by
    rw [List.getElem?_append_right (by rw [aw_len]; exact Nat.le_refl _), aw_len, Nat.sub_self]
    rfl
  have h1 : E.1 ≤ q := hD.2 _ _ hl
  rcases Nat.lt_or_ge q (E.1 + ah.length) with h | h
  · have hi : q - E.1 < ah.length := by omega
    have h2 : (aw_ws G.2 E.1 ah ++ [(q, e')])[q - E.1]? = some (E.1 + (q - E.1), aw_E G.2 ah[q - E.1]) := by
      rw [List.getElem?_append_left (by rw [aw_len]; exact hi), aw_get, List.getElem?_eq_getElem hi]
      rfl
    have h3 := hD.1 _ _ _ _ h2 hl (by show E.1 + (q - E.1) = q; omega)
    omega
  · exact h
/-- behind a new cell: its address is the next one -/
theorem kkn {H1 : Heap} {locs : List Loc} {Ls : Array Slot} {q pc' : Nat} {r : List Value} {e' : aE} {sl : Nat} (hsl : sl ≤ wid) (hn : s.heap.size ≤ E.1 + ah.length) (kk : KK E G k p l e R s m args below meth cd Q (pc', ls, .ref (E.1 + ah.length) :: r, ah ++ [e'])) (h1 : va_P G.1 vwCl (aw_ws G.2 E.1 ah ++ [(q, aw_E G.2 e')]) H1) (h2 : va_D (fun q => E.1 ≤ q) (aw_ws G.2 E.1 ah ++ [(q, aw_E G.2 e')])) (h3 : va_S (fun q => E.1 ≤ q) s.heap H1 locs) (hL : LH Ls (mrow k).2.2.1 ls) :
    W p l e R s m args below meth cd H1 locs (E.1 + ah.length - s.heap.size + 1) (wid * (E.1 + ah.length - s.heap.size) + sl) Q (F0 m pc' Ls (.ref q :: r)) := by
  refine W_size fun hz => ?_
  have hl : (aw_ws G.2 E.1 ah ++ [(q, aw_E G.2 e')])[ah.length]? = some (q, aw_E G.2 e') := by
    rw [List.getElem?_append_right (by rw [aw_len]; exact Nat.le_refl _), aw_len, Nat.sub_self]
    rfl
  have hq : q < H1.size := (h1 _ _ hl).lt
  have hf := aw_fresh h2
  have he : q = E.1 + ah.length := by omega
  subst he
  have k1 := kk H1 locs Ls (by show va_P G.1 vwCl (aw_ws G.2 E.1 (ah ++ [e'])) H1; rw [aw_push]; exact h1) h3 hL
  have hlen : E.1 + (ah ++ [e']).length - s.heap.size = E.1 + ah.length - s.heap.size + 1 := by rw [List.length_append]; simp; omega
  refine W.widen (k := E.1 + (ah ++ [e']).length - s.heap.size) (n := wid * (E.1 + (ah ++ [e']).length - s.heap.size)) (by omega) (by rw [hlen, Nat.mul_add]; omega) k1
theorem dfl_at {ci : Nat} {Cn : String} {T : u_T} {N : Nat} {ty0 : Nat → FieldType} (h : vwCl[ci]? = some (Cn, T, N)) (hty : ∀ k, k < N → parseFieldDescriptor (T k).2.2.1 = some (ty0 k)) (j : Nat) (hj : j < N) : defaultValue (ty0 j) = vp_V (dfl ci) j := by
  unfold dfl vp_V
  rw [h]
  simp [List.getD, hj, hty j hj]
theorem cls_N {ci : Nat} {Cn : String} {T : u_T} {N : Nat} (h : vwCl[ci]? = some (Cn, T, N)) : N ≤ 99 := by
  match ci, h with
  | 0, h => cases h; decide
  | 1, h => cases h; decide
  | 2, h => cases h; decide
  | 3, h => cases h; decide
  | 4, h => cases h; decide
  | 5, h => cases h; decide
  | 6, h => cases h; decide
  | 7, h => cases h; decide
  | 8, h => cases h; decide
  | 9, h => cases h; decide
  | 10, h => cases h; decide
  | 11, h => cases h; decide
  | n + 12, h => simp [vwCl] at h
/-- room for the heap that comes -/
noncomputable def RM (E : aEnv) (R : Room) (s : State) (ah : aHp) : Prop := E.1 + ah.length - s.heap.size ≤ R.cells ∧ wid * (E.1 + ah.length - s.heap.size) ≤ R.slots
theorem RM.one {e' : aE} (h : RM E R s (ah ++ [e'])) (hn : s.heap.size ≤ E.1 + ah.length) {sl : Nat} (hsl : sl ≤ wid) : E.1 + ah.length - s.heap.size + 1 ≤ R.cells ∧ wid * (E.1 + ah.length - s.heap.size) + sl ≤ R.slots := by
  obtain ⟨h1, h2⟩ := h
  have hlen : E.1 + (ah ++ [e']).length - s.heap.size = E.1 + ah.length - s.heap.size + 1 := by rw [List.length_append]; simp; omega
  rw [hlen] at h1 h2
  rw [Nat.mul_add] at h2
  exact ⟨h1, by omega⟩
theorem w_new {x ci : Nat} (hk : lk CLs (mrow k).2.2.2.2.2 x = some ci) (C : Cx E G c k p R s m args meth cd) (hn : s.heap.size ≤ E.1 + ah.length) (hR : RM E R s z.2.2.2) (hd : decode (mrow k).2.1 pc = .ok (.new x, 3)) (h : st1 E (.new ci) (pc + 3) ls st ah = some z) (kk : KK E G k p l e R s m args below meth cd Q z) : KK E G k p l e R s m args below meth cd Q (pc, ls, st, ah) := by
  obtain ⟨st', h2, rfl⟩ := st1_hw h rfl rfl rfl rfl rfl
  obtain ⟨hci, rfl⟩ := nO_is h2
  obtain ⟨pp, hp⟩ := zOK_at CLs_ok (lk_in hk)
  unfold clOK at hp
  split at hp
  · next r hr =>
    obtain ⟨Cn, T, N⟩ := r
    simp only [Bool.and_eq_true] at hp
    obtain ⟨⟨w1, w2⟩, w3⟩ := hp
    obtain ⟨ty0, hty, hnm⟩ := cls_ty hr
    have hN : N ≤ wid := Nat.le_trans (cls_N hr) (by decide)
    obtain ⟨r1, r2⟩ := RM.one (ah := ah) hR hn hN
    intro H locs Ls hH hS hL
    exact va_new C.1 C.2.1 C.wd (vw_in hr) ty0 hty C.own (C.wd _ (by rw [mrow_cls]; exact mG_in w1)) (C.wd _ (mG_in w2)) (C.wd _ (mG_in w3)) C.hK hH (aw_D E G ah) hS (fun q h => Nat.le_trans C.gs.2.2.2.2.1 h) hr (dfl_at hr hty) r1 r2 hd
      (fun q H1 k1 k2 k3 => kkn (e' := .inr (ci, dfl ci)) hN hn kk k1 k2 k3 hL)
  · cases hp
theorem tag_is {t : ArrayType} (h : ¬ tagOf t = 99) : (newarray.typeOf t = .int ∧ tagOf t = 0) ∨ (newarray.typeOf t = .long ∧ tagOf t = 1) ∨ (newarray.typeOf t = .byte ∧ tagOf t = 2) ∨ (newarray.typeOf t = .boolean ∧ tagOf t = 3) := by
  unfold tagOf at h ⊢
  cases hq : newarray.typeOf t <;> simp [hq] at h ⊢
theorem w_newarray {t : ArrayType} (C : Cx E G c k p R s m args meth cd) (hn : s.heap.size ≤ E.1 + ah.length) (hR : RM E R s z.2.2.2) (hd : decode (mrow k).2.1 pc = .ok (.newarray t, 2)) (h : st1 E (.newarray t) (pc + 2) ls st ah = some z) (kk : KK E G k p l e R s m args below meth cd Q z) : KK E G k p l e R s m args below meth cd Q (pc, ls, st, ah) := by
  obtain ⟨st', h2, rfl⟩ := st1_hw h rfl rfl rfl rfl rfl
  unfold hwA at h2
  simp only at h2
  split at h2
  · cases h2
  · next ht =>
    obtain ⟨n, r, rfl, hn0, hw, rfl⟩ := nR_is h2
    obtain ⟨r1, r2⟩ := RM.one (ah := ah) hR hn hw
    intro H locs Ls hH hS hL
    rcases tag_is ht with ⟨h1, h3⟩ | ⟨h1, h3⟩ | ⟨h1, h3⟩ | ⟨h1, h3⟩ <;> rw [h3] at kk
    · refine va_newa C.1 C.2.1 (by rw [h1]; exact C.wd _ (mG_in cw_arr.1)) h1 C.hK hH (aw_D E G ah) hS (fun q h => Nat.le_trans C.gs.2.2.2.2.1 h) (a0 := aZ 0 n.toNatClampNeg) (fun _ => rfl) hn0 rfl (Nat.le_trans (Nat.mul_le_mul_right _ hw) (by decide)) r1 r2 hd (fun q cA H1 k0 k1 k2 k3 => ?_)
      have e1 : cA = G.2 0 := Option.some.inj ((k0.2 7 _ rfl).2.symm.trans (C.hK.2 0 _ rfl).2)
      subst e1
      exact kkn (e' := .inl (0, aZ 0 n.toNatClampNeg)) hw hn kk k1 k2 k3 hL
    · refine va_newa C.1 C.2.1 (by rw [h1]; exact C.wd _ (mG_in cw_arr.2.1)) h1 C.hK hH (aw_D E G ah) hS (fun q h => Nat.le_trans C.gs.2.2.2.2.1 h) (a0 := aZ 1 n.toNatClampNeg) (fun _ => rfl) hn0 rfl (Nat.le_trans (Nat.mul_le_mul_right _ hw) (by decide)) r1 r2 hd (fun q cA H1 k0 k1 k2 k3 => ?_)
      have e1 : cA = G.2 1 := Option.some.inj ((k0.2 7 _ rfl).2.symm.trans (C.hK.2 1 _ rfl).2)
      subst e1
      exact kkn (e' := .inl (1, aZ 1 n.toNatClampNeg)) hw hn kk k1 k2 k3 hL
    · refine va_newa C.1 C.2.1 (by rw [h1]; exact C.wd _ (mG_in cw_arr.2.2.1)) h1 C.hK hH (aw_D E G ah) hS (fun q h => Nat.le_trans C.gs.2.2.2.2.1 h) (a0 := aZ 2 n.toNatClampNeg) (fun _ => rfl) hn0 rfl (Nat.le_trans (Nat.mul_le_mul_right _ hw) (by decide)) r1 r2 hd (fun q cA H1 k0 k1 k2 k3 => ?_)
      have e1 : cA = G.2 2 := Option.some.inj ((k0.2 7 _ rfl).2.symm.trans (C.hK.2 2 _ rfl).2)
      subst e1
      exact kkn (e' := .inl (2, aZ 2 n.toNatClampNeg)) hw hn kk k1 k2 k3 hL
    · refine va_newa C.1 C.2.1 (by rw [h1]; exact C.wd _ (mG_in cw_arr.2.2.2)) h1 C.hK hH (aw_D E G ah) hS (fun q h => Nat.le_trans C.gs.2.2.2.2.1 h) (a0 := aZ 3 n.toNatClampNeg) (fun _ => rfl) hn0 rfl (Nat.le_trans (Nat.mul_le_mul_right _ hw) (by decide)) r1 r2 hd (fun q cA H1 k0 k1 k2 k3 => ?_)
      have e1 : cA = G.2 3 := Option.some.inj ((k0.2 7 _ rfl).2.symm.trans (C.hK.2 3 _ rfl).2)
      subst e1
      exact kkn (e' := .inl (3, aZ 3 n.toNatClampNeg)) hw hn kk k1 k2 k3 hL
theorem w_anewarray {x t : Nat} (hk : (lk CLs (mrow k).2.2.2.2.2 x = some 9 ∧ t = 4) ∨ (lk CLs (mrow k).2.2.2.2.2 x = some 2 ∧ t = 5)) (C : Cx E G c k p R s m args meth cd) (hn : s.heap.size ≤ E.1 + ah.length) (hR : RM E R s z.2.2.2) (hd : decode (mrow k).2.1 pc = .ok (.anewarray x, 3)) (h : st1 E (.anewarray t) (pc + 3) ls st ah = some z) (kk : KK E G k p l e R s m args below meth cd Q z) : KK E G k p l e R s m args below meth cd Q (pc, ls, st, ah) := by
  obtain ⟨st', h2, rfl⟩ := st1_hw h rfl rfl rfl rfl rfl
  unfold hwA at h2
  simp only at h2
  split at h2
  · obtain ⟨n, r, rfl, hn0, hw, rfl⟩ := nR_is h2
    obtain ⟨r1, r2⟩ := RM.one (ah := ah) hR hn hw
    intro H locs Ls hH hS hL
    rcases hk with ⟨hk, rfl⟩ | ⟨hk, rfl⟩ <;> obtain ⟨pp, hp⟩ := zOK_at CLs_ok (lk_in hk) <;> simp only [clOK, vwCl, List.getElem?_cons_succ, List.getElem?_cons_zero, Bool.and_eq_true] at hp <;> obtain ⟨⟨w1, -⟩, -⟩ := hp
    · refine va_newq C.1 C.2.1 C.own (C.wd _ (by rw [mrow_cls]; exact mG_in w1)) C.gs.2.2.1 C.hK hH (aw_D E G ah) hS (fun q h => Nat.le_trans C.gs.2.2.2.2.1 h) hn0 rfl (Nat.le_trans (Nat.mul_le_mul_right _ hw) (by decide)) r1 r2 hd (fun q cA H1 k0 k1 k2 k3 => ?_)
      obtain ⟨_, _, _, _, _, a1⟩ := (k0.2 7 _ rfl).2
      obtain ⟨_, _, _, _, _, a2⟩ := (C.hK.2 4 _ rfl).2
      have e1 : cA = G.2 4 := Option.some.inj (a1.symm.trans a2)
      subst e1
      exact kkn (e' := .inl (4, aZ 4 n.toNatClampNeg)) hw hn kk k1 k2 k3 hL
    · refine va_newq C.1 C.2.1 C.own (C.wd _ (by rw [mrow_cls]; exact mG_in w1)) C.gs.2.2.2.1 C.hK hH (aw_D E G ah) hS (fun q h => Nat.le_trans C.gs.2.2.2.2.1 h) hn0 rfl (Nat.le_trans (Nat.mul_le_mul_right _ hw) (by decide)) r1 r2 hd (fun q cA H1 k0 k1 k2 k3 => ?_)
      obtain ⟨_, _, _, _, _, a1⟩ := (k0.2 7 _ rfl).2
      obtain ⟨_, _, _, _, _, a2⟩ := (C.hK.2 5 _ rfl).2
      have e1 : cA = G.2 5 := Option.some.inj (a1.symm.trans a2)
      subst e1
      exact kkn (e' := .inl (5, aZ 5 n.toNatClampNeg)) hw hn kk k1 k2 k3 hL
  · cases h2
end STEPN

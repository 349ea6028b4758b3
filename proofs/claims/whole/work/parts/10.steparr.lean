/-! one step at rows, constants, new cells -/
theorem sl_ok : mG pS0 (.fieldLink (cnm 3) 86 "WheelTables$Errata" "CHOICES" "[I") = true ∧ mG pS1 (.fieldLink (cnm 3) 92 "WheelTables$Errata" "POWERS" "[I") = true := by decide +kernel
section STEPA
variable {E : aEnv} {G : aG} {c k : Nat} {p : Program} {l : Launch} {e : Env} {R : Room} {s : State} {m : MethodId} {args : Array Value} {below : List Frame} {meth : Method} {cd : Code} {Q : State → Prop}
variable {pc : Nat} {ls : aLs} {st : List Value} {ah : aHp} {z : Nat × aLs × List Value × aHp}
theorem Cx.gs (C : Cx E G c k p R s m args meth cd) : GS E G s := C.2.2.2.2.2.2.2.2.2.2
theorem Cx.hK (C : Cx E G c k p R s m args meth cd) : va_K G.1 vwCl (tyz G) s := C.gs.1
theorem Cx.own (C : Cx E G c k p R s m args meth cd) : s.vm.findClass (mrow k).1.cls = some m.cls := C.2.2.2.2.2.2.1
theorem Cx.wd (C : Cx E G c k p R s m args meth cd) : ∀ w ∈ lw_g, w.before args s = true := C.2.2.2.2.2.2.2.1
theorem Cx.ro (C : Cx E G c k p R s m args meth cd) {a n : Nat} {f : Nat → Int32} (h : E.2.1 a = some (n, f)) : a < s.heap.size ∧ ¬ (fun q => E.1 ≤ q) a ∧ va_X a n f s s.heap := by
  obtain ⟨-, -, -, -, h5, h6, -⟩ := C.gs
  obtain ⟨h1, h2⟩ := h6 a n f h
  exact ⟨Nat.lt_of_lt_of_le h1 h5, Nat.not_le.mpr h1, h2⟩
theorem w_iaload (C : Cx E G c k p R s m args meth cd) (hd : decode (mrow k).2.1 pc = .ok (.iaload, 1)) (h : st1 E .iaload (pc + 1) ls st ah = some z) (kk : KK E G k p l e R s m args below meth cd Q z) : KK E G k p l e R s m args below meth cd Q (pc, ls, st, ah) := by
  obtain ⟨st', h2, rfl⟩ := st1_hr h rfl rfl rfl rfl rfl
  obtain ⟨i, a, r, n, f, rfl, hi, rfl, ha | ha⟩ := gI_is h2
  · intro H locs Ls hH hS hL
    exact va_iald C.1 C.2.1 C.hK hH _ 0 (hg_at (G := G) ha).1 rfl hi hd (kk H locs Ls hH hS hL)
  · obtain ⟨h1, h2, h3⟩ := C.ro ha
    intro H locs Ls hH hS hL
    exact va_sld C.1 C.2.1 h3 h1 h2 hS hi hd (kk H locs Ls hH hS hL)
theorem w_laload (C : Cx E G c k p R s m args meth cd) (hd : decode (mrow k).2.1 pc = .ok (.laload, 1)) (h : st1 E .laload (pc + 1) ls st ah = some z) (kk : KK E G k p l e R s m args below meth cd Q z) : KK E G k p l e R s m args below meth cd Q (pc, ls, st, ah) := by
  obtain ⟨st', h2, rfl⟩ := st1_hr h rfl rfl rfl rfl rfl
  obtain ⟨i, a, r, n, f, rfl, hi, rfl, ha⟩ := gL_is h2
  intro H locs Ls hH hS hL
  exact va_lald C.1 C.2.1 C.hK hH _ 1 (hg_at (G := G) ha).1 rfl hi hd (kk H locs Ls hH hS hL)
theorem w_baload (C : Cx E G c k p R s m args meth cd) (hd : decode (mrow k).2.1 pc = .ok (.baload, 1)) (h : st1 E .baload (pc + 1) ls st ah = some z) (kk : KK E G k p l e R s m args below meth cd Q z) : KK E G k p l e R s m args below meth cd Q (pc, ls, st, ah) := by
  obtain ⟨st', h2, rfl⟩ := st1_hr h rfl rfl rfl rfl rfl
  obtain ⟨i, a, r, n, f, rfl, hi, rfl, ha | ha⟩ := gB_is h2
  · intro H locs Ls hH hS hL
    exact va_bald C.1 C.2.1 C.hK hH _ 2 (hg_at (G := G) ha).1 rfl hi hd (kk H locs Ls hH hS hL)
  · intro H locs Ls hH hS hL
    exact va_zald C.1 C.2.1 C.hK hH _ 3 (hg_at (G := G) ha).1 rfl hi hd (kk H locs Ls hH hS hL)
theorem w_aaload (C : Cx E G c k p R s m args meth cd) (hd : decode (mrow k).2.1 pc = .ok (.aaload, 1)) (h : st1 E .aaload (pc + 1) ls st ah = some z) (kk : KK E G k p l e R s m args below meth cd Q z) : KK E G k p l e R s m args below meth cd Q (pc, ls, st, ah) := by
  obtain ⟨st', h2, rfl⟩ := st1_hr h rfl rfl rfl rfl rfl
  obtain ⟨i, a, r, t, n, f, rfl, hi, rfl, ha, h4, h6⟩ := gA_is h2
  intro H locs Ls hH hS hL
  have hw := (hg_at (G := G) ha).1
  rcases (show t = 4 ∨ t = 5 ∨ t = 6 by omega) with rfl | rfl | rfl
  · exact va_aldq C.1 C.2.1 C.hK hH _ 4 hw rfl hi hd (kk H locs Ls hH hS hL)
  · exact va_aldq C.1 C.2.1 C.hK hH _ 5 hw rfl hi hd (kk H locs Ls hH hS hL)
  · have hlt : i.toNatClampNeg < n := Nat.not_le.mp fun q => hi (Or.inr q)
    exact W.aald (v := va_rf (f i.toNatClampNeg)) (ty := .array .int) C.1 C.2.1 (hH _ _ hw) ((C.hK.2 6 _ rfl).1 n (fun j => va_rf (f j))) rfl (fun q => by cases q) (by show ¬ (i < 0 ∨ (arrV _ _ _).slots.size ≤ _); rw [arrV_size]; exact hi) (by show (arrV _ _ _).slots[_]? = _; rw [arrV_read _ _ hlt]) rfl rfl hd (kk H locs Ls hH hS hL)
theorem w_alen (C : Cx E G c k p R s m args meth cd) (hd : decode (mrow k).2.1 pc = .ok (.arraylength, 1)) (h : st1 E .arraylength (pc + 1) ls st ah = some z) (kk : KK E G k p l e R s m args below meth cd Q z) : KK E G k p l e R s m args below meth cd Q (pc, ls, st, ah) := by
  obtain ⟨st', h2, rfl⟩ := st1_hr h rfl rfl rfl rfl rfl
  obtain ⟨a, r, n, rfl, rfl, ⟨t, w, ht, ha⟩ | ⟨f, ha⟩⟩ := gN_is h2
  · intro H locs Ls hH hS hL
    have hw := (hg_at (G := G) ha).1
    rcases (show t = 0 ∨ t = 1 ∨ t = 2 ∨ t = 3 ∨ t = 4 ∨ t = 5 ∨ t = 6 by omega) with rfl | rfl | rfl | rfl | rfl | rfl | rfl
    · exact va_alen C.1 C.2.1 C.hK hH _ 0 hw rfl rfl hd (kk H locs Ls hH hS hL)
    · exact va_alen C.1 C.2.1 C.hK hH _ 1 hw rfl rfl hd (kk H locs Ls hH hS hL)
    · exact va_alen C.1 C.2.1 C.hK hH _ 2 hw rfl rfl hd (kk H locs Ls hH hS hL)
    · exact va_alen C.1 C.2.1 C.hK hH _ 3 hw rfl rfl hd (kk H locs Ls hH hS hL)
    · exact va_alen C.1 C.2.1 C.hK hH _ 4 hw rfl rfl hd (kk H locs Ls hH hS hL)
    · exact va_alen C.1 C.2.1 C.hK hH _ 5 hw rfl rfl hd (kk H locs Ls hH hS hL)
    · exact va_alen C.1 C.2.1 C.hK hH _ 6 hw rfl rfl hd (kk H locs Ls hH hS hL)
  · obtain ⟨h1, h2, h3⟩ := C.ro ha
    intro H locs Ls hH hS hL
    exact va_slen C.1 C.2.1 h3 h1 h2 hS hd (kk H locs Ls hH hS hL)
/-- behind a write of a cell -/
theorem kks {H1 : Heap} {locs1 : List Loc} {Ls : Array Slot} {a pc' : Nat} {r : List Value} {e' : aE} (hb : E.1 ≤ a) (kk : KK E G k p l e R s m args below meth cd Q (pc', ls, r, hs E ah a e')) (h1 : va_P G.1 vwCl ((aw_ws G.2 E.1 ah).set (a - E.1) (a, aw_E G.2 e')) H1) (h3 : va_S (fun q => E.1 ≤ q) s.heap H1 locs1) (hL : LH Ls (mrow k).2.2.1 ls) :
    W p l e R s m args below meth cd H1 locs1 (E.1 + ah.length - s.heap.size) (wid * (E.1 + ah.length - s.heap.size)) Q (F0 m pc' Ls r) :=
  kkw (kk H1 locs1 Ls (by show va_P G.1 vwCl (aw_ws G.2 E.1 (hs E ah a e')) H1; rw [hs_ws hb]; exact h1) h3 hL)
theorem w_iastore (C : Cx E G c k p R s m args meth cd) (hd : decode (mrow k).2.1 pc = .ok (.iastore, 1)) (h : st1 E .iastore (pc + 1) ls st ah = some z) (kk : KK E G k p l e R s m args below meth cd Q z) : KK E G k p l e R s m args below meth cd Q (pc, ls, st, ah) := by
  obtain ⟨st', h2, rfl⟩ := st1_hw h rfl rfl rfl rfl rfl
  obtain ⟨x, i, a, r, n, f, rfl, ha, hi, rfl⟩ := pI_is h2
  intro H locs Ls hH hS hL
  obtain ⟨hw, hb, -⟩ := hg_at (G := G) ha
  exact va_iast C.1 C.2.1 C.hK hH (aw_D E G ah) hS _ 0 hw rfl hi hd (fun H1 locs1 k1 _ k3 => kks hb kk k1 k3 hL)
theorem w_lastore (C : Cx E G c k p R s m args meth cd) (hd : decode (mrow k).2.1 pc = .ok (.lastore, 1)) (h : st1 E .lastore (pc + 1) ls st ah = some z) (kk : KK E G k p l e R s m args below meth cd Q z) : KK E G k p l e R s m args below meth cd Q (pc, ls, st, ah) := by
  obtain ⟨st', h2, rfl⟩ := st1_hw h rfl rfl rfl rfl rfl
  obtain ⟨x, i, a, r, n, f, rfl, ha, hi, rfl⟩ := pL_is h2
  intro H locs Ls hH hS hL
  obtain ⟨hw, hb, -⟩ := hg_at (G := G) ha
  exact va_last C.1 C.2.1 C.hK hH (aw_D E G ah) hS _ 1 hw rfl hi hd (fun H1 locs1 k1 _ k3 => kks hb kk k1 k3 hL)
theorem w_bastore (C : Cx E G c k p R s m args meth cd) (hd : decode (mrow k).2.1 pc = .ok (.bastore, 1)) (h : st1 E .bastore (pc + 1) ls st ah = some z) (kk : KK E G k p l e R s m args below meth cd Q z) : KK E G k p l e R s m args below meth cd Q (pc, ls, st, ah) := by
  obtain ⟨st', h2, rfl⟩ := st1_hw h rfl rfl rfl rfl rfl
  obtain ⟨x, i, a, r, n, f, rfl, hi, ⟨ha, rfl⟩ | ⟨ha, rfl⟩⟩ := pB_is h2
  · intro H locs Ls hH hS hL
    obtain ⟨hw, hb, -⟩ := hg_at (G := G) ha
    exact va_bast C.1 C.2.1 C.hK hH (aw_D E G ah) hS _ 2 hw rfl hi hd (fun H1 locs1 k1 _ k3 => kks hb kk k1 k3 hL)
  · intro H locs Ls hH hS hL
    obtain ⟨hw, hb, -⟩ := hg_at (G := G) ha
    exact va_zast C.1 C.2.1 C.hK hH (aw_D E G ah) hS _ 3 hw rfl hi hd (fun H1 locs1 k1 _ k3 => kks hb kk k1 k3 hL)
theorem w_aastore (C : Cx E G c k p R s m args meth cd) (hd : decode (mrow k).2.1 pc = .ok (.aastore, 1)) (h : st1 E .aastore (pc + 1) ls st ah = some z) (kk : KK E G k p l e R s m args below meth cd Q z) : KK E G k p l e R s m args below meth cd Q (pc, ls, st, ah) := by
  obtain ⟨st', h2, rfl⟩ := st1_hw h rfl rfl rfl rfl rfl
  obtain ⟨v, i, a, r, t, n, f, vs, rfl, ha, hv, ht, hi, rfl⟩ := pA_is h2
  intro H locs Ls hH hS hL
  obtain ⟨hw, hb, -⟩ := hg_at (G := G) ha
  obtain ⟨hw2, -, -⟩ := hg_at (G := G) hv
  rcases ht with rfl | rfl
  · exact va_astq (r := (RX10, TX10, 3)) C.1 C.2.1 C.hK hH (aw_D E G ah) hS _ 4 _ 9 hw rfl hw2 rfl hi hd (fun H1 locs1 k1 _ k3 => kks hb kk k1 k3 hL)
  · exact va_astq (r := (RX3, TX3, 15)) C.1 C.2.1 C.hK hH (aw_D E G ah) hS _ 5 _ 2 hw rfl hw2 rfl hi hd (fun H1 locs1 k1 _ k3 => kks hb kk k1 k3 hL)
theorem w_getstatic {x n : Nat} (hk : lk SLs (mrow k).2.2.2.2.2 x = some n) (C : Cx E G c k p R s m args meth cd) (hd : decode (mrow k).2.1 pc = .ok (.getstatic x, 3)) (h : st1 E (.getstatic n) (pc + 3) ls st ah = some z) (kk : KK E G k p l e R s m args below meth cd Q z) : KK E G k p l e R s m args below meth cd Q (pc, ls, st, ah) := by
  obtain ⟨st', h2, rfl⟩ := st1_hr h rfl rfl rfl rfl rfl
  obtain ⟨v, hv, rfl⟩ := gC_is h2
  have hc := C.gs.2.2.2.2.2.2.1 n v hv
  have hm := lk_in hk
  simp only [SLs, List.mem_cons, Prod.mk.injEq, List.not_mem_nil, or_false] at hm
  intro H locs Ls hH hS hL
  rcases hm with ⟨⟨h1, rfl⟩, rfl⟩ | ⟨⟨h1, rfl⟩, rfl⟩
  · exact va_gets C.1 C.2.1 hc hS C.own (C.wd _ (by rw [mrow_cls, h1]; exact mG_in sl_ok.1)) (fun _ h9 => h9) hd (kk H locs Ls hH hS hL)
  · exact va_gets C.1 C.2.1 hc hS C.own (C.wd _ (by rw [mrow_cls, h1]; exact mG_in sl_ok.2)) (fun _ h9 => h9) hd (kk H locs Ls hH hS hL)
theorem w_ldcs {x j : Nat} (hk : STs.findIdx? (fun q => q.1.1 == (mrow k).2.2.2.2.2 && q.1.2 == x) = some j) (C : Cx E G c k p R s m args meth cd) (hd : decode (mrow k).2.1 pc = .ok (.ldc x, 2)) (h : st1 E (.ldc (100 + j)) (pc + 2) ls st ah = some z) (kk : KK E G k p l e R s m args below meth cd Q z) : KK E G k p l e R s m args below meth cd Q (pc, ls, st, ah) := by
  obtain ⟨st', h2, rfl⟩ := st1_hr h rfl rfl rfl rfl rfl
  obtain ⟨v, hv, rfl⟩ := gC_is h2
  have hc := C.gs.2.2.2.2.2.2.1 (100 + j) v hv
  unfold cstS at hc
  split at hc
  · omega
  · omega
  · obtain ⟨q, a, h1, -, rfl, h4⟩ := hc
    rw [show 100 + j - 100 = j by omega] at h1
    obtain ⟨hj, hq, -⟩ := List.findIdx?_eq_some_iff_getElem.mp hk
    rw [List.getElem?_eq_getElem hj] at h1
    have h1 := Option.some.inj h1
    rw [h1] at hq
    simp only [Bool.and_eq_true, beq_iff_eq] at hq
    rw [hq.1, hq.2, ← mrow_cls] at h4
    intro H locs Ls hH hS hL
    exact va_ldcS C.1 C.2.1 C.own h4 hd (kk H locs Ls hH hS hL)
end STEPA

/-! ONE STEP: what the abstract machine does in a step, the real one does -/
noncomputable def Cx (E : aEnv) (G : aG) (c k : Nat) (p : Program) (R : Room) (s : State) (m : MethodId) (args : Array Value) (meth : Method) (cd : Code) : Prop :=
  p.tables.exec = Jvm.exec ∧ cd.code = (mrow k).2.1 ∧ cd.maxLocals = (mrow k).2.2.1 ∧ meth.sig.returnType = (mrow k).2.2.2.1 ∧ meth.locks = false ∧ meth.name = (mrow k).1.name ∧
  s.vm.findClass (mrow k).1.cls = some m.cls ∧ (∀ w ∈ lw_g, w.before args s = true) ∧ c ≤ R.frames ∧ 100 * c ≤ R.locals ∧ GS E G s
/-- the machine goes on well from an abstract state -/
noncomputable def KK (E : aEnv) (G : aG) (k : Nat) (p : Program) (l : Launch) (e : Env) (R : Room) (s : State) (m : MethodId) (args : Array Value) (below : List Frame) (meth : Method) (cd : Code) (Q : State → Prop) (z : Nat × aLs × List Value × aHp) : Prop :=
  ∀ (H : Heap) (locs : List Loc) (Ls : Array Slot), HR E G z.2.2.2 H → va_S (fun q => E.1 ≤ q) s.heap H locs → LH Ls (mrow k).2.2.1 z.2.1 →
    W p l e R s m args below meth cd H locs (E.1 + z.2.2.2.length - s.heap.size) (wid * (E.1 + z.2.2.2.length - s.heap.size)) Q (F0 m z.1 Ls z.2.2.1)
section STEP
variable {E : aEnv} {G : aG} {c k : Nat} {p : Program} {l : Launch} {e : Env} {R : Room} {s : State} {m : MethodId} {args : Array Value} {below : List Frame} {meth : Method} {cd : Code} {Q : State → Prop}
variable {pc : Nat} {ls : aLs} {st : List Value} {ah : aHp} {z : Nat × aLs × List Value × aHp}
theorem W_size {H : Heap} {locs : List Loc} {cells slots : Nat} {g : JFrame} (kk : H.size ≤ s.heap.size + cells → W p l e R s m args below meth cd H locs cells slots Q g) : W p l e R s m args below meth cd H locs cells slots Q g := by
  intro T hT X
  have h : T.heap.size ≤ s.heap.size + cells := X.same.2.2.1
  exact kk (by rw [← hT]; exact h) T hT X
theorem mrow_cls (k : Nat) : (mrow k).1.cls = cnm (mrow k).2.2.2.2.2 := by
  unfold mrow
  cases h : mtab[k]? with
  | none => rfl
  | some r =>
    have h1 := List.all_eq_true.mp mcls_ok r (List.mem_of_getElem? h)
    simpa using h1
theorem w_iadd (C : Cx E G c k p R s m args meth cd) (hd : decode (mrow k).2.1 pc = .ok (.iadd, 1)) (h : st1 E (.iadd) (pc + 1) ls st ah = some z) (kk : KK E G k p l e R s m args below meth cd Q z) : KK E G k p l e R s m args below meth cd Q (pc, ls, st, ah) := by
  obtain ⟨st', h2, rfl⟩ := st1_sk h rfl rfl rfl rfl rfl
  obtain ⟨x, y, r, rfl, rfl⟩ := sB_is h2
  intro H locs Ls hH hS hL
  exact lv_iadd C.1 C.2.1 hd (kk H locs Ls hH hS hL)
theorem w_isub (C : Cx E G c k p R s m args meth cd) (hd : decode (mrow k).2.1 pc = .ok (.isub, 1)) (h : st1 E (.isub) (pc + 1) ls st ah = some z) (kk : KK E G k p l e R s m args below meth cd Q z) : KK E G k p l e R s m args below meth cd Q (pc, ls, st, ah) := by
  obtain ⟨st', h2, rfl⟩ := st1_sk h rfl rfl rfl rfl rfl
  obtain ⟨x, y, r, rfl, rfl⟩ := sB_is h2
  intro H locs Ls hH hS hL
  exact lv_isub C.1 C.2.1 hd (kk H locs Ls hH hS hL)
theorem w_imul (C : Cx E G c k p R s m args meth cd) (hd : decode (mrow k).2.1 pc = .ok (.imul, 1)) (h : st1 E (.imul) (pc + 1) ls st ah = some z) (kk : KK E G k p l e R s m args below meth cd Q z) : KK E G k p l e R s m args below meth cd Q (pc, ls, st, ah) := by
  obtain ⟨st', h2, rfl⟩ := st1_sk h rfl rfl rfl rfl rfl
  obtain ⟨x, y, r, rfl, rfl⟩ := sB_is h2
  intro H locs Ls hH hS hL
  exact lv_imul C.1 C.2.1 hd (kk H locs Ls hH hS hL)
theorem w_iand (C : Cx E G c k p R s m args meth cd) (hd : decode (mrow k).2.1 pc = .ok (.iand, 1)) (h : st1 E (.iand) (pc + 1) ls st ah = some z) (kk : KK E G k p l e R s m args below meth cd Q z) : KK E G k p l e R s m args below meth cd Q (pc, ls, st, ah) := by
  obtain ⟨st', h2, rfl⟩ := st1_sk h rfl rfl rfl rfl rfl
  obtain ⟨x, y, r, rfl, rfl⟩ := sB_is h2
  intro H locs Ls hH hS hL
  exact lv_iand C.1 C.2.1 hd (kk H locs Ls hH hS hL)
theorem w_ior (C : Cx E G c k p R s m args meth cd) (hd : decode (mrow k).2.1 pc = .ok (.ior, 1)) (h : st1 E (.ior) (pc + 1) ls st ah = some z) (kk : KK E G k p l e R s m args below meth cd Q z) : KK E G k p l e R s m args below meth cd Q (pc, ls, st, ah) := by
  obtain ⟨st', h2, rfl⟩ := st1_sk h rfl rfl rfl rfl rfl
  obtain ⟨x, y, r, rfl, rfl⟩ := sB_is h2
  intro H locs Ls hH hS hL
  exact lv_ior C.1 C.2.1 hd (kk H locs Ls hH hS hL)
theorem w_ishl (C : Cx E G c k p R s m args meth cd) (hd : decode (mrow k).2.1 pc = .ok (.ishl, 1)) (h : st1 E (.ishl) (pc + 1) ls st ah = some z) (kk : KK E G k p l e R s m args below meth cd Q z) : KK E G k p l e R s m args below meth cd Q (pc, ls, st, ah) := by
  obtain ⟨st', h2, rfl⟩ := st1_sk h rfl rfl rfl rfl rfl
  obtain ⟨x, y, r, rfl, rfl⟩ := sB_is h2
  intro H locs Ls hH hS hL
  exact lv_ishl C.1 C.2.1 hd (kk H locs Ls hH hS hL)
theorem w_ishr (C : Cx E G c k p R s m args meth cd) (hd : decode (mrow k).2.1 pc = .ok (.ishr, 1)) (h : st1 E (.ishr) (pc + 1) ls st ah = some z) (kk : KK E G k p l e R s m args below meth cd Q z) : KK E G k p l e R s m args below meth cd Q (pc, ls, st, ah) := by
  obtain ⟨st', h2, rfl⟩ := st1_sk h rfl rfl rfl rfl rfl
  obtain ⟨x, y, r, rfl, rfl⟩ := sB_is h2
  intro H locs Ls hH hS hL
  exact lv_ishr C.1 C.2.1 hd (kk H locs Ls hH hS hL)
theorem w_ladd (C : Cx E G c k p R s m args meth cd) (hd : decode (mrow k).2.1 pc = .ok (.ladd, 1)) (h : st1 E (.ladd) (pc + 1) ls st ah = some z) (kk : KK E G k p l e R s m args below meth cd Q z) : KK E G k p l e R s m args below meth cd Q (pc, ls, st, ah) := by
  obtain ⟨st', h2, rfl⟩ := st1_sk h rfl rfl rfl rfl rfl
  obtain ⟨x, y, r, rfl, rfl⟩ := tB_is h2
  intro H locs Ls hH hS hL
  exact lv_ladd C.1 C.2.1 hd (kk H locs Ls hH hS hL)
theorem w_lsub (C : Cx E G c k p R s m args meth cd) (hd : decode (mrow k).2.1 pc = .ok (.lsub, 1)) (h : st1 E (.lsub) (pc + 1) ls st ah = some z) (kk : KK E G k p l e R s m args below meth cd Q z) : KK E G k p l e R s m args below meth cd Q (pc, ls, st, ah) := by
  obtain ⟨st', h2, rfl⟩ := st1_sk h rfl rfl rfl rfl rfl
  obtain ⟨x, y, r, rfl, rfl⟩ := tB_is h2
  intro H locs Ls hH hS hL
  exact lv_lsub C.1 C.2.1 hd (kk H locs Ls hH hS hL)
theorem w_lmul (C : Cx E G c k p R s m args meth cd) (hd : decode (mrow k).2.1 pc = .ok (.lmul, 1)) (h : st1 E (.lmul) (pc + 1) ls st ah = some z) (kk : KK E G k p l e R s m args below meth cd Q z) : KK E G k p l e R s m args below meth cd Q (pc, ls, st, ah) := by
  obtain ⟨st', h2, rfl⟩ := st1_sk h rfl rfl rfl rfl rfl
  obtain ⟨x, y, r, rfl, rfl⟩ := tB_is h2
  intro H locs Ls hH hS hL
  exact lv_lmul C.1 C.2.1 hd (kk H locs Ls hH hS hL)
theorem w_land (C : Cx E G c k p R s m args meth cd) (hd : decode (mrow k).2.1 pc = .ok (.land, 1)) (h : st1 E (.land) (pc + 1) ls st ah = some z) (kk : KK E G k p l e R s m args below meth cd Q z) : KK E G k p l e R s m args below meth cd Q (pc, ls, st, ah) := by
  obtain ⟨st', h2, rfl⟩ := st1_sk h rfl rfl rfl rfl rfl
  obtain ⟨x, y, r, rfl, rfl⟩ := tB_is h2
  intro H locs Ls hH hS hL
  exact lv_land C.1 C.2.1 hd (kk H locs Ls hH hS hL)
theorem w_lor (C : Cx E G c k p R s m args meth cd) (hd : decode (mrow k).2.1 pc = .ok (.lor, 1)) (h : st1 E (.lor) (pc + 1) ls st ah = some z) (kk : KK E G k p l e R s m args below meth cd Q z) : KK E G k p l e R s m args below meth cd Q (pc, ls, st, ah) := by
  obtain ⟨st', h2, rfl⟩ := st1_sk h rfl rfl rfl rfl rfl
  obtain ⟨x, y, r, rfl, rfl⟩ := tB_is h2
  intro H locs Ls hH hS hL
  exact lv_lor C.1 C.2.1 hd (kk H locs Ls hH hS hL)
theorem w_lxor (C : Cx E G c k p R s m args meth cd) (hd : decode (mrow k).2.1 pc = .ok (.lxor, 1)) (h : st1 E (.lxor) (pc + 1) ls st ah = some z) (kk : KK E G k p l e R s m args below meth cd Q z) : KK E G k p l e R s m args below meth cd Q (pc, ls, st, ah) := by
  obtain ⟨st', h2, rfl⟩ := st1_sk h rfl rfl rfl rfl rfl
  obtain ⟨x, y, r, rfl, rfl⟩ := tB_is h2
  intro H locs Ls hH hS hL
  exact lv_lxor C.1 C.2.1 hd (kk H locs Ls hH hS hL)
theorem w_idiv (C : Cx E G c k p R s m args meth cd) (hd : decode (mrow k).2.1 pc = .ok (.idiv, 1)) (h : st1 E (.idiv) (pc + 1) ls st ah = some z) (kk : KK E G k p l e R s m args below meth cd Q z) : KK E G k p l e R s m args below meth cd Q (pc, ls, st, ah) := by
  obtain ⟨st', h2, rfl⟩ := st1_sk h rfl rfl rfl rfl rfl
  obtain ⟨x, y, r, rfl, hy, rfl⟩ := sD_is h2
  intro H locs Ls hH hS hL
  exact lv_idiv C.1 C.2.1 hd hy (kk H locs Ls hH hS hL)
theorem w_irem (C : Cx E G c k p R s m args meth cd) (hd : decode (mrow k).2.1 pc = .ok (.irem, 1)) (h : st1 E (.irem) (pc + 1) ls st ah = some z) (kk : KK E G k p l e R s m args below meth cd Q z) : KK E G k p l e R s m args below meth cd Q (pc, ls, st, ah) := by
  obtain ⟨st', h2, rfl⟩ := st1_sk h rfl rfl rfl rfl rfl
  obtain ⟨x, y, r, rfl, hy, rfl⟩ := sD_is h2
  intro H locs Ls hH hS hL
  exact lv_irem C.1 C.2.1 hd hy (kk H locs Ls hH hS hL)
theorem w_ldiv (C : Cx E G c k p R s m args meth cd) (hd : decode (mrow k).2.1 pc = .ok (.ldiv, 1)) (h : st1 E (.ldiv) (pc + 1) ls st ah = some z) (kk : KK E G k p l e R s m args below meth cd Q z) : KK E G k p l e R s m args below meth cd Q (pc, ls, st, ah) := by
  obtain ⟨st', h2, rfl⟩ := st1_sk h rfl rfl rfl rfl rfl
  obtain ⟨x, y, r, rfl, hy, rfl⟩ := tD_is h2
  intro H locs Ls hH hS hL
  exact lv_ldiv C.1 C.2.1 hd hy (kk H locs Ls hH hS hL)
theorem w_lrem (C : Cx E G c k p R s m args meth cd) (hd : decode (mrow k).2.1 pc = .ok (.lrem, 1)) (h : st1 E (.lrem) (pc + 1) ls st ah = some z) (kk : KK E G k p l e R s m args below meth cd Q z) : KK E G k p l e R s m args below meth cd Q (pc, ls, st, ah) := by
  obtain ⟨st', h2, rfl⟩ := st1_sk h rfl rfl rfl rfl rfl
  obtain ⟨x, y, r, rfl, hy, rfl⟩ := tD_is h2
  intro H locs Ls hH hS hL
  exact lv_lrem C.1 C.2.1 hd hy (kk H locs Ls hH hS hL)
theorem w_ineg (C : Cx E G c k p R s m args meth cd) (hd : decode (mrow k).2.1 pc = .ok (.ineg, 1)) (h : st1 E (.ineg) (pc + 1) ls st ah = some z) (kk : KK E G k p l e R s m args below meth cd Q z) : KK E G k p l e R s m args below meth cd Q (pc, ls, st, ah) := by
  obtain ⟨st', h2, rfl⟩ := st1_sk h rfl rfl rfl rfl rfl
  obtain ⟨x, r, rfl, rfl⟩ := sU_is h2
  intro H locs Ls hH hS hL
  exact lv_ineg C.1 C.2.1 hd (kk H locs Ls hH hS hL)
theorem w_lneg (C : Cx E G c k p R s m args meth cd) (hd : decode (mrow k).2.1 pc = .ok (.lneg, 1)) (h : st1 E (.lneg) (pc + 1) ls st ah = some z) (kk : KK E G k p l e R s m args below meth cd Q z) : KK E G k p l e R s m args below meth cd Q (pc, ls, st, ah) := by
  obtain ⟨st', h2, rfl⟩ := st1_sk h rfl rfl rfl rfl rfl
  obtain ⟨x, r, rfl, rfl⟩ := tU_is h2
  intro H locs Ls hH hS hL
  exact lv_lneg C.1 C.2.1 hd (kk H locs Ls hH hS hL)
theorem w_i2b (C : Cx E G c k p R s m args meth cd) (hd : decode (mrow k).2.1 pc = .ok (.i2b, 1)) (h : st1 E (.i2b) (pc + 1) ls st ah = some z) (kk : KK E G k p l e R s m args below meth cd Q z) : KK E G k p l e R s m args below meth cd Q (pc, ls, st, ah) := by
  obtain ⟨st', h2, rfl⟩ := st1_sk h rfl rfl rfl rfl rfl
  obtain ⟨x, r, rfl, rfl⟩ := sU_is h2
  intro H locs Ls hH hS hL
  exact lv_i2b C.1 C.2.1 hd rfl (kk H locs Ls hH hS hL)
theorem w_i2s (C : Cx E G c k p R s m args meth cd) (hd : decode (mrow k).2.1 pc = .ok (.i2s, 1)) (h : st1 E (.i2s) (pc + 1) ls st ah = some z) (kk : KK E G k p l e R s m args below meth cd Q z) : KK E G k p l e R s m args below meth cd Q (pc, ls, st, ah) := by
  obtain ⟨st', h2, rfl⟩ := st1_sk h rfl rfl rfl rfl rfl
  obtain ⟨x, r, rfl, rfl⟩ := sU_is h2
  intro H locs Ls hH hS hL
  exact lv_i2s C.1 C.2.1 hd rfl (kk H locs Ls hH hS hL)
theorem w_i2l (C : Cx E G c k p R s m args meth cd) (hd : decode (mrow k).2.1 pc = .ok (.i2l, 1)) (h : st1 E (.i2l) (pc + 1) ls st ah = some z) (kk : KK E G k p l e R s m args below meth cd Q z) : KK E G k p l e R s m args below meth cd Q (pc, ls, st, ah) := by
  obtain ⟨st', h2, rfl⟩ := st1_sk h rfl rfl rfl rfl rfl
  obtain ⟨x, r, rfl, rfl⟩ := sIL_is h2
  intro H locs Ls hH hS hL
  exact lv_i2l C.1 C.2.1 hd rfl (kk H locs Ls hH hS hL)
theorem w_l2i (C : Cx E G c k p R s m args meth cd) (hd : decode (mrow k).2.1 pc = .ok (.l2i, 1)) (h : st1 E (.l2i) (pc + 1) ls st ah = some z) (kk : KK E G k p l e R s m args below meth cd Q z) : KK E G k p l e R s m args below meth cd Q (pc, ls, st, ah) := by
  obtain ⟨st', h2, rfl⟩ := st1_sk h rfl rfl rfl rfl rfl
  obtain ⟨x, r, rfl, rfl⟩ := sLI_is h2
  intro H locs Ls hH hS hL
  exact lv_l2i C.1 C.2.1 hd rfl (kk H locs Ls hH hS hL)
theorem w_lshl (C : Cx E G c k p R s m args meth cd) (hd : decode (mrow k).2.1 pc = .ok (.lshl, 1)) (h : st1 E (.lshl) (pc + 1) ls st ah = some z) (kk : KK E G k p l e R s m args below meth cd Q z) : KK E G k p l e R s m args below meth cd Q (pc, ls, st, ah) := by
  obtain ⟨st', h2, rfl⟩ := st1_sk h rfl rfl rfl rfl rfl
  obtain ⟨x, y, r, rfl, rfl⟩ := sH_is h2
  intro H locs Ls hH hS hL
  exact lv_lshl C.1 C.2.1 hd rfl (kk H locs Ls hH hS hL)
theorem w_lcmp (C : Cx E G c k p R s m args meth cd) (hd : decode (mrow k).2.1 pc = .ok (.lcmp, 1)) (h : st1 E (.lcmp) (pc + 1) ls st ah = some z) (kk : KK E G k p l e R s m args below meth cd Q z) : KK E G k p l e R s m args below meth cd Q (pc, ls, st, ah) := by
  obtain ⟨st', h2, rfl⟩ := st1_sk h rfl rfl rfl rfl rfl
  obtain ⟨x, y, r, rfl, rfl⟩ := sC_is h2
  intro H locs Ls hH hS hL
  exact W.lcmp C.1 C.2.1 hd (kk H locs Ls hH hS hL)
theorem w_dup (C : Cx E G c k p R s m args meth cd) (hd : decode (mrow k).2.1 pc = .ok (.dup, 1)) (h : st1 E (.dup) (pc + 1) ls st ah = some z) (kk : KK E G k p l e R s m args below meth cd Q z) : KK E G k p l e R s m args below meth cd Q (pc, ls, st, ah) := by
  obtain ⟨st', h2, rfl⟩ := st1_sk h rfl rfl rfl rfl rfl
  obtain ⟨v, r, rfl, hv, rfl⟩ := sDup_is h2
  intro H locs Ls hH hS hL
  exact lv_dup C.1 C.2.1 hd hv (kk H locs Ls hH hS hL)
theorem w_pop (C : Cx E G c k p R s m args meth cd) (hd : decode (mrow k).2.1 pc = .ok (.pop, 1)) (h : st1 E (.pop) (pc + 1) ls st ah = some z) (kk : KK E G k p l e R s m args below meth cd Q z) : KK E G k p l e R s m args below meth cd Q (pc, ls, st, ah) := by
  obtain ⟨st', h2, rfl⟩ := st1_sk h rfl rfl rfl rfl rfl
  obtain ⟨v, rfl, hv⟩ := sPop_is h2
  intro H locs Ls hH hS hL
  exact lv_pop C.1 C.2.1 hd hv (kk H locs Ls hH hS hL)
theorem w_dup2 (C : Cx E G c k p R s m args meth cd) (hd : decode (mrow k).2.1 pc = .ok (.dup2, 1)) (h : st1 E (.dup2) (pc + 1) ls st ah = some z) (kk : KK E G k p l e R s m args below meth cd Q z) : KK E G k p l e R s m args below meth cd Q (pc, ls, st, ah) := by
  obtain ⟨st', h2, rfl⟩ := st1_sk h rfl rfl rfl rfl rfl
  rcases sDup2_is h2 with ⟨x, r, rfl, rfl⟩ | ⟨v, w, r, rfl, hv, hw, rfl⟩
  · intro H locs Ls hH hS hL
    exact lv_dup2_2 C.1 C.2.1 hd rfl (kk H locs Ls hH hS hL)
  · intro H locs Ls hH hS hL
    exact lv_dup2_11 C.1 C.2.1 hd hv hw (kk H locs Ls hH hS hL)
theorem w_null (C : Cx E G c k p R s m args meth cd) (hd : decode (mrow k).2.1 pc = .ok (.aconst_null, 1)) (h : st1 E (.aconst_null) (pc + 1) ls st ah = some z) (kk : KK E G k p l e R s m args below meth cd Q z) : KK E G k p l e R s m args below meth cd Q (pc, ls, st, ah) := by
  obtain ⟨st', h2, rfl⟩ := st1_sk h rfl rfl rfl rfl rfl
  cases h2
  intro H locs Ls hH hS hL
  exact lv_null C.1 C.2.1 hd (kk H locs Ls hH hS hL)
theorem w_iconst {n : Int} (C : Cx E G c k p R s m args meth cd) (hd : decode (mrow k).2.1 pc = .ok (.iconst n, 1)) (h : st1 E (.iconst n) (pc + 1) ls st ah = some z) (kk : KK E G k p l e R s m args below meth cd Q z) : KK E G k p l e R s m args below meth cd Q (pc, ls, st, ah) := by
  obtain ⟨st', h2, rfl⟩ := st1_sk h rfl rfl rfl rfl rfl
  cases h2
  intro H locs Ls hH hS hL
  exact lv_iconst C.1 C.2.1 hd rfl (kk H locs Ls hH hS hL)
theorem w_bipush {n : Int} (C : Cx E G c k p R s m args meth cd) (hd : decode (mrow k).2.1 pc = .ok (.bipush n, 2)) (h : st1 E (.iconst (Int8.ofInt n).toInt32.toInt) (pc + 2) ls st ah = some z) (kk : KK E G k p l e R s m args below meth cd Q z) : KK E G k p l e R s m args below meth cd Q (pc, ls, st, ah) := by
  obtain ⟨st', h2, rfl⟩ := st1_sk h rfl rfl rfl rfl rfl
  cases h2
  intro H locs Ls hH hS hL
  exact lv_bipush C.1 C.2.1 hd (Int32.ofInt_toInt _).symm (kk H locs Ls hH hS hL)
theorem w_sipush {n : Int} (C : Cx E G c k p R s m args meth cd) (hd : decode (mrow k).2.1 pc = .ok (.sipush n, 3)) (h : st1 E (.iconst (Int16.ofInt n).toInt32.toInt) (pc + 3) ls st ah = some z) (kk : KK E G k p l e R s m args below meth cd Q z) : KK E G k p l e R s m args below meth cd Q (pc, ls, st, ah) := by
  obtain ⟨st', h2, rfl⟩ := st1_sk h rfl rfl rfl rfl rfl
  cases h2
  intro H locs Ls hH hS hL
  exact lv_sipush C.1 C.2.1 hd (Int32.ofInt_toInt _).symm (kk H locs Ls hH hS hL)
theorem w_lconst {n : Fin 2} (C : Cx E G c k p R s m args meth cd) (hd : decode (mrow k).2.1 pc = .ok (.lconst n, 1)) (h : st1 E (.jsr_w ((n : Nat) : Int)) (pc + 1) ls st ah = some z) (kk : KK E G k p l e R s m args below meth cd Q z) : KK E G k p l e R s m args below meth cd Q (pc, ls, st, ah) := by
  obtain ⟨st', h2, rfl⟩ := st1_sk h rfl rfl rfl rfl rfl
  cases h2
  intro H locs Ls hH hS hL
  exact lv_lconst C.1 C.2.1 hd (by rw [Int64.ofInt_eq_ofNat]) (kk H locs Ls hH hS hL)
theorem w_ldci {x : Nat} {v : Int} (hk : lk CIs (mrow k).2.2.2.2.2 x = some v) (C : Cx E G c k p R s m args meth cd) (hd : decode (mrow k).2.1 pc = .ok (.ldc x, 2)) (h : st1 E (.iconst v) (pc + 2) ls st ah = some z) (kk : KK E G k p l e R s m args below meth cd Q z) : KK E G k p l e R s m args below meth cd Q (pc, ls, st, ah) := by
  obtain ⟨st', h2, rfl⟩ := st1_sk h rfl rfl rfl rfl rfl
  cases h2
  intro H locs Ls hH hS hL
  obtain ⟨q, hq⟩ := zOK_at CIs_ok (lk_in hk)
  exact lv_ldc C.1 C.2.1 C.2.2.2.2.2.2.1 (C.2.2.2.2.2.2.2.1 _ (by rw [mrow_cls]; exact mG_in hq)) hd (kk H locs Ls hH hS hL)
theorem w_ldc2 {x : Nat} {v : Int} (hk : lk CJs (mrow k).2.2.2.2.2 x = some v) (C : Cx E G c k p R s m args meth cd) (hd : decode (mrow k).2.1 pc = .ok (.ldc2_w x, 3)) (h : st1 E (.jsr_w v) (pc + 3) ls st ah = some z) (kk : KK E G k p l e R s m args below meth cd Q z) : KK E G k p l e R s m args below meth cd Q (pc, ls, st, ah) := by
  obtain ⟨st', h2, rfl⟩ := st1_sk h rfl rfl rfl rfl rfl
  cases h2
  intro H locs Ls hH hS hL
  obtain ⟨q, hq⟩ := zOK_at CJs_ok (lk_in hk)
  exact lv_ldc2 C.1 C.2.1 C.2.2.2.2.2.2.1 (C.2.2.2.2.2.2.2.1 _ (by rw [mrow_cls]; exact mG_in hq)) hd (kk H locs Ls hH hS hL)
theorem w_iload {j : Nat} (C : Cx E G c k p R s m args meth cd) (hd : decode (mrow k).2.1 pc = .ok (.iload j, 2)) (h : st1 E (.iload j) (pc + 2) ls st ah = some z) (kk : KK E G k p l e R s m args below meth cd Q z) : KK E G k p l e R s m args below meth cd Q (pc, ls, st, ah) := by
  obtain ⟨v, h2, rfl⟩ := st1_ld h rfl rfl rfl rfl rfl
  obtain ⟨x, rfl, hx⟩ := lI_is h2
  intro H locs Ls hH hS hL
  exact lv_iload C.1 C.2.1 hd (hL.2.2.2 _ _ hx) (kk H locs Ls hH hS hL)
theorem w_iload_n {j : Fin 4} (C : Cx E G c k p R s m args meth cd) (hd : decode (mrow k).2.1 pc = .ok (.iload_n j, 1)) (h : st1 E (.iload (j : Nat)) (pc + 1) ls st ah = some z) (kk : KK E G k p l e R s m args below meth cd Q z) : KK E G k p l e R s m args below meth cd Q (pc, ls, st, ah) := by
  obtain ⟨v, h2, rfl⟩ := st1_ld h rfl rfl rfl rfl rfl
  obtain ⟨x, rfl, hx⟩ := lI_is h2
  intro H locs Ls hH hS hL
  exact lv_iload_n C.1 C.2.1 hd rfl (hL.2.2.2 _ _ hx) (kk H locs Ls hH hS hL)
theorem w_lload {j : Nat} (C : Cx E G c k p R s m args meth cd) (hd : decode (mrow k).2.1 pc = .ok (.lload j, 2)) (h : st1 E (.lload j) (pc + 2) ls st ah = some z) (kk : KK E G k p l e R s m args below meth cd Q z) : KK E G k p l e R s m args below meth cd Q (pc, ls, st, ah) := by
  obtain ⟨v, h2, rfl⟩ := st1_ld h rfl rfl rfl rfl rfl
  obtain ⟨x, rfl, hx⟩ := lL_is h2
  intro H locs Ls hH hS hL
  exact lv_lload C.1 C.2.1 hd (hL.2.2.2 _ _ hx) (kk H locs Ls hH hS hL)
theorem w_lload_n {j : Fin 4} (C : Cx E G c k p R s m args meth cd) (hd : decode (mrow k).2.1 pc = .ok (.lload_n j, 1)) (h : st1 E (.lload (j : Nat)) (pc + 1) ls st ah = some z) (kk : KK E G k p l e R s m args below meth cd Q z) : KK E G k p l e R s m args below meth cd Q (pc, ls, st, ah) := by
  obtain ⟨v, h2, rfl⟩ := st1_ld h rfl rfl rfl rfl rfl
  obtain ⟨x, rfl, hx⟩ := lL_is h2
  intro H locs Ls hH hS hL
  exact lv_lload_n C.1 C.2.1 hd rfl (hL.2.2.2 _ _ hx) (kk H locs Ls hH hS hL)
theorem w_aload {j : Nat} (C : Cx E G c k p R s m args meth cd) (hd : decode (mrow k).2.1 pc = .ok (.aload j, 2)) (h : st1 E (.aload j) (pc + 2) ls st ah = some z) (kk : KK E G k p l e R s m args below meth cd Q z) : KK E G k p l e R s m args below meth cd Q (pc, ls, st, ah) := by
  obtain ⟨v, h2, rfl⟩ := st1_ld h rfl rfl rfl rfl rfl
  rcases lA_is h2 with ⟨a, rfl, hx⟩ | ⟨rfl, hx⟩
  · intro H locs Ls hH hS hL
    exact lv_aload C.1 C.2.1 hd (hL.2.2.2 _ _ hx) (kk H locs Ls hH hS hL)
  · intro H locs Ls hH hS hL
    exact lv_aloadN C.1 C.2.1 hd (hL.2.2.2 _ _ hx) (kk H locs Ls hH hS hL)
theorem w_aload_n {j : Fin 4} (C : Cx E G c k p R s m args meth cd) (hd : decode (mrow k).2.1 pc = .ok (.aload_n j, 1)) (h : st1 E (.aload (j : Nat)) (pc + 1) ls st ah = some z) (kk : KK E G k p l e R s m args below meth cd Q z) : KK E G k p l e R s m args below meth cd Q (pc, ls, st, ah) := by
  obtain ⟨v, h2, rfl⟩ := st1_ld h rfl rfl rfl rfl rfl
  rcases lA_is h2 with ⟨a, rfl, hx⟩ | ⟨rfl, hx⟩
  · intro H locs Ls hH hS hL
    exact lv_aload_n C.1 C.2.1 hd rfl (hL.2.2.2 _ _ hx) (kk H locs Ls hH hS hL)
  · intro H locs Ls hH hS hL
    exact lv_aload_nN C.1 C.2.1 hd rfl (hL.2.2.2 _ _ hx) (kk H locs Ls hH hS hL)
theorem w_istore {j : Nat} (C : Cx E G c k p R s m args meth cd) (hd : decode (mrow k).2.1 pc = .ok (.istore j, 2)) (h : st1 E (.istore j) (pc + 2) ls st ah = some z) (kk : KK E G k p l e R s m args below meth cd Q z) : KK E G k p l e R s m args below meth cd Q (pc, ls, st, ah) := by
  obtain ⟨q, h2, rfl⟩ := st1_so h rfl rfl rfl rfl rfl
  obtain ⟨x, r, rfl, hj, rfl⟩ := oI_is h2
  intro H locs Ls hH hS hL
  exact lv_istore C.1 C.2.1 hd hL.has (by rw [← hL.1]; exact hj) rfl (fun Ls1 h1 => kk H locs Ls1 hH hS (LH.st1 hL.1 h1))
theorem w_istore_n {j : Fin 4} (C : Cx E G c k p R s m args meth cd) (hd : decode (mrow k).2.1 pc = .ok (.istore_n j, 1)) (h : st1 E (.istore (j : Nat)) (pc + 1) ls st ah = some z) (kk : KK E G k p l e R s m args below meth cd Q z) : KK E G k p l e R s m args below meth cd Q (pc, ls, st, ah) := by
  obtain ⟨q, h2, rfl⟩ := st1_so h rfl rfl rfl rfl rfl
  obtain ⟨x, r, rfl, hj, rfl⟩ := oI_is h2
  intro H locs Ls hH hS hL
  exact lv_istore_n C.1 C.2.1 hd rfl hL.has (by rw [← hL.1]; exact hj) rfl (fun Ls1 h1 => kk H locs Ls1 hH hS (LH.st1 hL.1 h1))
theorem w_lstore {j : Nat} (C : Cx E G c k p R s m args meth cd) (hd : decode (mrow k).2.1 pc = .ok (.lstore j, 2)) (h : st1 E (.lstore j) (pc + 2) ls st ah = some z) (kk : KK E G k p l e R s m args below meth cd Q z) : KK E G k p l e R s m args below meth cd Q (pc, ls, st, ah) := by
  obtain ⟨q, h2, rfl⟩ := st1_so h rfl rfl rfl rfl rfl
  obtain ⟨x, r, rfl, hj, rfl⟩ := oL_is h2
  intro H locs Ls hH hS hL
  exact lv_lstore C.1 C.2.1 hd hL.has (by rw [← hL.1]; exact hj) rfl (fun Ls1 h1 => kk H locs Ls1 hH hS (LH.st2 hL.1 h1))
theorem w_lstore_n {j : Fin 4} (C : Cx E G c k p R s m args meth cd) (hd : decode (mrow k).2.1 pc = .ok (.lstore_n j, 1)) (h : st1 E (.lstore (j : Nat)) (pc + 1) ls st ah = some z) (kk : KK E G k p l e R s m args below meth cd Q z) : KK E G k p l e R s m args below meth cd Q (pc, ls, st, ah) := by
  obtain ⟨q, h2, rfl⟩ := st1_so h rfl rfl rfl rfl rfl
  obtain ⟨x, r, rfl, hj, rfl⟩ := oL_is h2
  intro H locs Ls hH hS hL
  exact lv_lstore_n C.1 C.2.1 hd rfl hL.has (by rw [← hL.1]; exact hj) rfl (fun Ls1 h1 => kk H locs Ls1 hH hS (LH.st2 hL.1 h1))
theorem w_astore {j : Nat} (C : Cx E G c k p R s m args meth cd) (hd : decode (mrow k).2.1 pc = .ok (.astore j, 2)) (h : st1 E (.astore j) (pc + 2) ls st ah = some z) (kk : KK E G k p l e R s m args below meth cd Q z) : KK E G k p l e R s m args below meth cd Q (pc, ls, st, ah) := by
  obtain ⟨q, h2, rfl⟩ := st1_so h rfl rfl rfl rfl rfl
  obtain ⟨hj, ⟨x, r, rfl, rfl⟩ | ⟨r, rfl, rfl⟩⟩ := oA_is h2
  · intro H locs Ls hH hS hL
    exact lv_astore C.1 C.2.1 hd hL.has (by rw [← hL.1]; exact hj) rfl (fun Ls1 h1 => kk H locs Ls1 hH hS (LH.st1 hL.1 h1))
  · intro H locs Ls hH hS hL
    exact lv_astoreN C.1 C.2.1 hd hL.has (by rw [← hL.1]; exact hj) rfl (fun Ls1 h1 => kk H locs Ls1 hH hS (LH.st1 hL.1 h1))
theorem w_astore_n {j : Fin 4} (C : Cx E G c k p R s m args meth cd) (hd : decode (mrow k).2.1 pc = .ok (.astore_n j, 1)) (h : st1 E (.astore (j : Nat)) (pc + 1) ls st ah = some z) (kk : KK E G k p l e R s m args below meth cd Q z) : KK E G k p l e R s m args below meth cd Q (pc, ls, st, ah) := by
  obtain ⟨q, h2, rfl⟩ := st1_so h rfl rfl rfl rfl rfl
  obtain ⟨hj, ⟨x, r, rfl, rfl⟩ | ⟨r, rfl, rfl⟩⟩ := oA_is h2
  · intro H locs Ls hH hS hL
    exact lv_astore_n C.1 C.2.1 hd rfl hL.has (by rw [← hL.1]; exact hj) rfl (fun Ls1 h1 => kk H locs Ls1 hH hS (LH.st1 hL.1 h1))
  · intro H locs Ls hH hS hL
    exact lv_astore_nN C.1 C.2.1 hd rfl hL.has (by rw [← hL.1]; exact hj) rfl (fun Ls1 h1 => kk H locs Ls1 hH hS (LH.st1 hL.1 h1))
theorem w_iinc {j : Nat} {n : Int} (C : Cx E G c k p R s m args meth cd) (hd : decode (mrow k).2.1 pc = .ok (.iinc j n, 3)) (h : st1 E (.iinc j n) (pc + 3) ls st ah = some z) (kk : KK E G k p l e R s m args below meth cd Q z) : KK E G k p l e R s m args below meth cd Q (pc, ls, st, ah) := by
  obtain ⟨q, h2, rfl⟩ := st1_so h rfl rfl rfl rfl rfl
  obtain ⟨x, hx, rfl⟩ := oC_is h2
  intro H locs Ls hH hS hL
  obtain ⟨i, hi, he⟩ := List.getElem_of_mem ((asc_in (q := (j, Value.int x))).mpr hx)
  exact lv_iinc (k := i) C.1 C.2.1 hd hL.has (by rw [List.getElem?_eq_getElem hi, he]) rfl (by rw [← hL.1]; exact (List.getElem?_eq_some_iff.mp hx).1) rfl (fun Ls1 h1 => kk H locs Ls1 hH hS (LH.st1 hL.1 h1))
theorem w_goto {o t : Int} (ht : ap pc o = some t) (C : Cx E G c k p R s m args meth cd) (hd : decode (mrow k).2.1 pc = .ok (.goto o, 3)) (h : st1 E (.goto t) (pc + 3) ls st ah = some z) (kk : KK E G k p l e R s m args below meth cd Q z) : KK E G k p l e R s m args below meth cd Q (pc, ls, st, ah) := by
  obtain ⟨q, h2, rfl⟩ := st1_jp h rfl rfl rfl rfl rfl
  cases h2
  intro H locs Ls hH hS hL
  exact lv_goto C.1 C.2.1 hd (ap_is ht) (kk H locs Ls hH hS hL)
theorem w_if_eq {o t : Int} (ht : ap pc o = some t) (C : Cx E G c k p R s m args meth cd) (hd : decode (mrow k).2.1 pc = .ok (.ifCond .eq o, 3)) (h : st1 E (.ifCond .eq t) (pc + 3) ls st ah = some z) (kk : KK E G k p l e R s m args below meth cd Q z) : KK E G k p l e R s m args below meth cd Q (pc, ls, st, ah) := by
  obtain ⟨q, h2, rfl⟩ := st1_jp h rfl rfl rfl rfl rfl
  obtain ⟨x, r, rfl, rfl⟩ := j1_is h2
  intro H locs Ls hH hS hL
  refine lv_if_eq C.1 C.2.1 hd (ap_is ht) (fun hc => ?_) (fun hc => ?_)
  · have k1 := kk H locs Ls hH hS hL
    simp only [hc, if_true, not_false_eq_true] at k1
    exact k1
  · have k1 := kk H locs Ls hH hS hL
    simp only [hc, if_false] at k1
    exact k1
theorem w_icmp_eq {o t : Int} (ht : ap pc o = some t) (C : Cx E G c k p R s m args meth cd) (hd : decode (mrow k).2.1 pc = .ok (.if_icmp .eq o, 3)) (h : st1 E (.if_icmp .eq t) (pc + 3) ls st ah = some z) (kk : KK E G k p l e R s m args below meth cd Q z) : KK E G k p l e R s m args below meth cd Q (pc, ls, st, ah) := by
  obtain ⟨q, h2, rfl⟩ := st1_jp h rfl rfl rfl rfl rfl
  obtain ⟨x, y, r, rfl, rfl⟩ := j2_is h2
  intro H locs Ls hH hS hL
  refine lv_icmp_eq C.1 C.2.1 hd (ap_is ht) (fun hc => ?_) (fun hc => ?_)
  · have k1 := kk H locs Ls hH hS hL
    simp only [hc, if_true, not_false_eq_true] at k1
    exact k1
  · have k1 := kk H locs Ls hH hS hL
    simp only [hc, if_false] at k1
    exact k1
theorem w_if_ne {o t : Int} (ht : ap pc o = some t) (C : Cx E G c k p R s m args meth cd) (hd : decode (mrow k).2.1 pc = .ok (.ifCond .ne o, 3)) (h : st1 E (.ifCond .ne t) (pc + 3) ls st ah = some z) (kk : KK E G k p l e R s m args below meth cd Q z) : KK E G k p l e R s m args below meth cd Q (pc, ls, st, ah) := by
  obtain ⟨q, h2, rfl⟩ := st1_jp h rfl rfl rfl rfl rfl
  obtain ⟨x, r, rfl, rfl⟩ := j1_is h2
  intro H locs Ls hH hS hL
  refine lv_if_ne C.1 C.2.1 hd (ap_is ht) (fun hc => ?_) (fun hc => ?_)
  · have k1 := kk H locs Ls hH hS hL
    simp only [if_pos hc] at k1
    exact k1
  · have k1 := kk H locs Ls hH hS hL
    simp only [if_neg (not_not_intro hc)] at k1
    exact k1
theorem w_icmp_ne {o t : Int} (ht : ap pc o = some t) (C : Cx E G c k p R s m args meth cd) (hd : decode (mrow k).2.1 pc = .ok (.if_icmp .ne o, 3)) (h : st1 E (.if_icmp .ne t) (pc + 3) ls st ah = some z) (kk : KK E G k p l e R s m args below meth cd Q z) : KK E G k p l e R s m args below meth cd Q (pc, ls, st, ah) := by
  obtain ⟨q, h2, rfl⟩ := st1_jp h rfl rfl rfl rfl rfl
  obtain ⟨x, y, r, rfl, rfl⟩ := j2_is h2
  intro H locs Ls hH hS hL
  refine lv_icmp_ne C.1 C.2.1 hd (ap_is ht) (fun hc => ?_) (fun hc => ?_)
  · have k1 := kk H locs Ls hH hS hL
    simp only [if_pos hc] at k1
    exact k1
  · have k1 := kk H locs Ls hH hS hL
    simp only [if_neg (not_not_intro hc)] at k1
    exact k1
theorem w_if_lt {o t : Int} (ht : ap pc o = some t) (C : Cx E G c k p R s m args meth cd) (hd : decode (mrow k).2.1 pc = .ok (.ifCond .lt o, 3)) (h : st1 E (.ifCond .lt t) (pc + 3) ls st ah = some z) (kk : KK E G k p l e R s m args below meth cd Q z) : KK E G k p l e R s m args below meth cd Q (pc, ls, st, ah) := by
  obtain ⟨q, h2, rfl⟩ := st1_jp h rfl rfl rfl rfl rfl
  obtain ⟨x, r, rfl, rfl⟩ := j1_is h2
  intro H locs Ls hH hS hL
  refine lv_if_lt C.1 C.2.1 hd (ap_is ht) (fun hc => ?_) (fun hc => ?_)
  · have k1 := kk H locs Ls hH hS hL
    simp only [hc, if_true, not_false_eq_true] at k1
    exact k1
  · have k1 := kk H locs Ls hH hS hL
    simp only [hc, if_false] at k1
    exact k1
theorem w_icmp_lt {o t : Int} (ht : ap pc o = some t) (C : Cx E G c k p R s m args meth cd) (hd : decode (mrow k).2.1 pc = .ok (.if_icmp .lt o, 3)) (h : st1 E (.if_icmp .lt t) (pc + 3) ls st ah = some z) (kk : KK E G k p l e R s m args below meth cd Q z) : KK E G k p l e R s m args below meth cd Q (pc, ls, st, ah) := by
  obtain ⟨q, h2, rfl⟩ := st1_jp h rfl rfl rfl rfl rfl
  obtain ⟨x, y, r, rfl, rfl⟩ := j2_is h2
  intro H locs Ls hH hS hL
  refine lv_icmp_lt C.1 C.2.1 hd (ap_is ht) (fun hc => ?_) (fun hc => ?_)
  · have k1 := kk H locs Ls hH hS hL
    simp only [hc, if_true, not_false_eq_true] at k1
    exact k1
  · have k1 := kk H locs Ls hH hS hL
    simp only [hc, if_false] at k1
    exact k1
theorem w_if_ge {o t : Int} (ht : ap pc o = some t) (C : Cx E G c k p R s m args meth cd) (hd : decode (mrow k).2.1 pc = .ok (.ifCond .ge o, 3)) (h : st1 E (.ifCond .ge t) (pc + 3) ls st ah = some z) (kk : KK E G k p l e R s m args below meth cd Q z) : KK E G k p l e R s m args below meth cd Q (pc, ls, st, ah) := by
  obtain ⟨q, h2, rfl⟩ := st1_jp h rfl rfl rfl rfl rfl
  obtain ⟨x, r, rfl, rfl⟩ := j1_is h2
  intro H locs Ls hH hS hL
  refine lv_if_ge C.1 C.2.1 hd (ap_is ht) (fun hc => ?_) (fun hc => ?_)
  · have k1 := kk H locs Ls hH hS hL
    simp only [hc, if_true, not_false_eq_true] at k1
    exact k1
  · have k1 := kk H locs Ls hH hS hL
    simp only [hc, if_false] at k1
    exact k1
theorem w_icmp_ge {o t : Int} (ht : ap pc o = some t) (C : Cx E G c k p R s m args meth cd) (hd : decode (mrow k).2.1 pc = .ok (.if_icmp .ge o, 3)) (h : st1 E (.if_icmp .ge t) (pc + 3) ls st ah = some z) (kk : KK E G k p l e R s m args below meth cd Q z) : KK E G k p l e R s m args below meth cd Q (pc, ls, st, ah) := by
  obtain ⟨q, h2, rfl⟩ := st1_jp h rfl rfl rfl rfl rfl
  obtain ⟨x, y, r, rfl, rfl⟩ := j2_is h2
  intro H locs Ls hH hS hL
  refine lv_icmp_ge C.1 C.2.1 hd (ap_is ht) (fun hc => ?_) (fun hc => ?_)
  · have k1 := kk H locs Ls hH hS hL
    simp only [hc, if_true, not_false_eq_true] at k1
    exact k1
  · have k1 := kk H locs Ls hH hS hL
    simp only [hc, if_false] at k1
    exact k1
theorem w_if_gt {o t : Int} (ht : ap pc o = some t) (C : Cx E G c k p R s m args meth cd) (hd : decode (mrow k).2.1 pc = .ok (.ifCond .gt o, 3)) (h : st1 E (.ifCond .gt t) (pc + 3) ls st ah = some z) (kk : KK E G k p l e R s m args below meth cd Q z) : KK E G k p l e R s m args below meth cd Q (pc, ls, st, ah) := by
  obtain ⟨q, h2, rfl⟩ := st1_jp h rfl rfl rfl rfl rfl
  obtain ⟨x, r, rfl, rfl⟩ := j1_is h2
  intro H locs Ls hH hS hL
  refine lv_if_gt C.1 C.2.1 hd (ap_is ht) (fun hc => ?_) (fun hc => ?_)
  · have k1 := kk H locs Ls hH hS hL
    simp only [hc, if_true, not_false_eq_true] at k1
    exact k1
  · have k1 := kk H locs Ls hH hS hL
    simp only [hc, if_false] at k1
    exact k1
theorem w_icmp_gt {o t : Int} (ht : ap pc o = some t) (C : Cx E G c k p R s m args meth cd) (hd : decode (mrow k).2.1 pc = .ok (.if_icmp .gt o, 3)) (h : st1 E (.if_icmp .gt t) (pc + 3) ls st ah = some z) (kk : KK E G k p l e R s m args below meth cd Q z) : KK E G k p l e R s m args below meth cd Q (pc, ls, st, ah) := by
  obtain ⟨q, h2, rfl⟩ := st1_jp h rfl rfl rfl rfl rfl
  obtain ⟨x, y, r, rfl, rfl⟩ := j2_is h2
  intro H locs Ls hH hS hL
  refine lv_icmp_gt C.1 C.2.1 hd (ap_is ht) (fun hc => ?_) (fun hc => ?_)
  · have k1 := kk H locs Ls hH hS hL
    simp only [hc, if_true, not_false_eq_true] at k1
    exact k1
  · have k1 := kk H locs Ls hH hS hL
    simp only [hc, if_false] at k1
    exact k1
theorem w_if_le {o t : Int} (ht : ap pc o = some t) (C : Cx E G c k p R s m args meth cd) (hd : decode (mrow k).2.1 pc = .ok (.ifCond .le o, 3)) (h : st1 E (.ifCond .le t) (pc + 3) ls st ah = some z) (kk : KK E G k p l e R s m args below meth cd Q z) : KK E G k p l e R s m args below meth cd Q (pc, ls, st, ah) := by
  obtain ⟨q, h2, rfl⟩ := st1_jp h rfl rfl rfl rfl rfl
  obtain ⟨x, r, rfl, rfl⟩ := j1_is h2
  intro H locs Ls hH hS hL
  refine lv_if_le C.1 C.2.1 hd (ap_is ht) (fun hc => ?_) (fun hc => ?_)
  · have k1 := kk H locs Ls hH hS hL
    simp only [hc, if_true, not_false_eq_true] at k1
    exact k1
  · have k1 := kk H locs Ls hH hS hL
    simp only [hc, if_false] at k1
    exact k1
theorem w_icmp_le {o t : Int} (ht : ap pc o = some t) (C : Cx E G c k p R s m args meth cd) (hd : decode (mrow k).2.1 pc = .ok (.if_icmp .le o, 3)) (h : st1 E (.if_icmp .le t) (pc + 3) ls st ah = some z) (kk : KK E G k p l e R s m args below meth cd Q z) : KK E G k p l e R s m args below meth cd Q (pc, ls, st, ah) := by
  obtain ⟨q, h2, rfl⟩ := st1_jp h rfl rfl rfl rfl rfl
  obtain ⟨x, y, r, rfl, rfl⟩ := j2_is h2
  intro H locs Ls hH hS hL
  refine lv_icmp_le C.1 C.2.1 hd (ap_is ht) (fun hc => ?_) (fun hc => ?_)
  · have k1 := kk H locs Ls hH hS hL
    simp only [hc, if_true, not_false_eq_true] at k1
    exact k1
  · have k1 := kk H locs Ls hH hS hL
    simp only [hc, if_false] at k1
    exact k1
theorem w_ifnull {o t : Int} (ht : ap pc o = some t) (C : Cx E G c k p R s m args meth cd) (hd : decode (mrow k).2.1 pc = .ok (.ifnull o, 3)) (h : st1 E (.ifnull t) (pc + 3) ls st ah = some z) (kk : KK E G k p l e R s m args below meth cd Q z) : KK E G k p l e R s m args below meth cd Q (pc, ls, st, ah) := by
  obtain ⟨q, h2, rfl⟩ := st1_jp h rfl rfl rfl rfl rfl
  rcases jN_is h2 with ⟨x, r, rfl, rfl⟩ | ⟨r, rfl, rfl⟩
  · intro H locs Ls hH hS hL
    exact lv_ifnull C.1 C.2.1 hd (kk H locs Ls hH hS hL)
  · intro H locs Ls hH hS hL
    exact lv_ifnullN C.1 C.2.1 hd (ap_is ht) (kk H locs Ls hH hS hL)
theorem w_ifnonnull {o t : Int} (ht : ap pc o = some t) (C : Cx E G c k p R s m args meth cd) (hd : decode (mrow k).2.1 pc = .ok (.ifnonnull o, 3)) (h : st1 E (.ifnonnull t) (pc + 3) ls st ah = some z) (kk : KK E G k p l e R s m args below meth cd Q z) : KK E G k p l e R s m args below meth cd Q (pc, ls, st, ah) := by
  obtain ⟨q, h2, rfl⟩ := st1_jp h rfl rfl rfl rfl rfl
  rcases jN_is h2 with ⟨x, r, rfl, rfl⟩ | ⟨r, rfl, rfl⟩
  · intro H locs Ls hH hS hL
    exact lv_ifnonnull C.1 C.2.1 hd (ap_is ht) (kk H locs Ls hH hS hL)
  · intro H locs Ls hH hS hL
    exact lv_ifnonnullN C.1 C.2.1 hd (kk H locs Ls hH hS hL)
theorem w_table {d lo hi : Int} {offs : Array Int} {n : Nat} (h0 : 0 ≤ (pc : Int) + d) (hz : offs.toList.all (fun o => decide (0 ≤ (pc : Int) + o)) = true) (C : Cx E G c k p R s m args meth cd) (hd : decode (mrow k).2.1 pc = .ok (.tableswitch d lo hi offs, n)) (h : st1 E (.tableswitch ((pc : Int) + d) lo hi (offs.map fun o => (pc : Int) + o)) (pc + n) ls st ah = some z) (kk : KK E G k p l e R s m args below meth cd Q z) : KK E G k p l e R s m args below meth cd Q (pc, ls, st, ah) := by
  obtain ⟨q, h2, rfl⟩ := st1_jp h rfl rfl rfl rfl rfl
  obtain ⟨x, r, rfl, ⟨hc, rfl⟩ | ⟨hc, o, ho, rfl⟩⟩ := jT_is h2
  · intro H locs Ls hH hS hL
    exact lv_tableOut C.1 C.2.1 hd hc (by omega) (kk H locs Ls hH hS hL)
  · rw [Array.getElem?_map] at ho
    obtain ⟨o', ho', rfl⟩ := Option.map_eq_some_iff.mp ho
    have h3 := List.all_eq_true.mp hz o' (by rw [← Array.getElem?_toList] at ho'; exact List.mem_of_getElem? ho')
    have h4 : 0 ≤ (pc : Int) + o' := by simpa using h3
    intro H locs Ls hH hS hL
    exact lv_tableIn C.1 C.2.1 hd (fun q => hc (Or.inl q)) (fun q => hc (Or.inr q)) ho' (by omega) (kk H locs Ls hH hS hL)
end STEP

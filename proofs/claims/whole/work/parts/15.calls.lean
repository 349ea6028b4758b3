/-! calls, and what is no method of the tables -/
section CALLS
variable {E : aEnv} {G : aG} {c k : Nat} {p : Program} {l : Launch} {e : Env} {R : Room} {s : State} {m : MethodId} {args : Array Value} {below : List Frame} {meth : Method} {cd : Code} {Q : State → Prop}
variable {pc : Nat} {ls : aLs} {st : List Value} {ah : aHp}
theorem hsz_of {H : Heap} {locs : List Loc} (C : Cx E G c k p R s m args meth cd) (hn : s.heap.size ≤ E.1 + ah.length) (hH : HR E G ah H) (hS : va_S (fun q => E.1 ≤ q) s.heap H locs) (hz : H.size ≤ s.heap.size + (E.1 + ah.length - s.heap.size)) : H.size = E.1 + ah.length := by
  have h2 : s.heap.size ≤ H.size := hS.1
  rcases Nat.eq_zero_or_pos ah.length with h3 | h3
  · have := C.gs.2.2.2.2.1
    omega
  · have h4 : (aw_ws G.2 E.1 ah)[ah.length - 1]? = some (E.1 + (ah.length - 1), aw_E G.2 ah[ah.length - 1]) := by
      rw [aw_get, List.getElem?_eq_getElem (by omega)]
      rfl
    have h5 : E.1 + (ah.length - 1) < H.size := (hH _ _ h4).lt
    omega
theorem x_obj {x : Nat} {q : List Value × aHp} (C : Cx E G c k p R s m args meth cd) (hc : 1 ≤ c) (hk : lk XLs (mrow k).2.2.2.2.2 x = some 4) (hd : decode (mrow k).2.1 pc = .ok (.invokespecial x, 3)) (h : xtA E (.ldc_w 4) st ah = some q) (hw : wds q.1 ≤ 8) (kk : KK E G k p l e R s m args below meth cd Q (pc + 3, ls, q.1, q.2)) : KK E G k p l e R s m args below meth cd Q (pc, ls, st, ah) := by
  obtain ⟨r, hr, rfl⟩ := Option.map_eq_some_iff.mp (show (oO st).map (fun r => (r, ah)) = some q from h)
  obtain ⟨a, rfl⟩ := oO_is hr
  obtain ⟨pp, hp⟩ := zOK_at XLs_ok (lk_in hk)
  have hp : mG pp (.methodLink (cnm (mrow k).2.2.2.2.2) x objectInit) = true := hp
  intro H locs Ls hH hS hL
  have hlo := C.2.2.2.2.2.2.2.2.2.1
  have hro : 2 * (F0 m pc Ls (.ref a :: r)).monitorRoom + (r.map fun v => v.category).sum ≤ 8 := lv_room hw
  refine W.objInit C.1 C.2.1 C.own (C.wd _ (by rw [mrow_cls]; exact mG_in hp)) (C.wd _ (mG_in cw_obj.1)) (C.wd _ (mG_in cw_obj.2)) rfl (by rw [C.2.2.1]; exact hL.2.1) rfl hd (Nat.le_trans hc C.2.2.2.2.2.2.2.2.1) (by show 2 * (F0 m pc Ls (.ref a :: r)).monitorRoom + (r.map fun v => v.category).sum + 12 ≤ R.locals; omega) ?_
  exact W.eq (g2 := F0 m (pc + 3) Ls r) rfl (kk H locs Ls hH hS hL)
theorem nfw : nativeFrameWords "java/lang/System" "arraycopy" 5 + 11 ≤ 90 := by decide
theorem x_copy {x : Nat} {q : List Value × aHp} (C : Cx E G c k p R s m args meth cd) (hc : 1 ≤ c) (hk : lk XLs (mrow k).2.2.2.2.2 x = some 2) (hd : decode (mrow k).2.1 pc = .ok (.invokestatic x, 3)) (h : xtA E (.ldc_w 2) st ah = some q) (hw : wds q.1 ≤ 8) (kk : KK E G k p l e R s m args below meth cd Q (pc + 3, ls, q.1, q.2)) : KK E G k p l e R s m args below meth cd Q (pc, ls, st, ah) := by
  have h : cY E ah st = some q := h
  obtain ⟨n, dp, d, sp, s0, r, rfl, n0, n1, ⟨h1, h2, h3, h4, h5⟩, hq⟩ := cY_is h
  obtain ⟨pp, hp⟩ := zOK_at XLs_ok (lk_in hk)
  have hp : mG pp (.methodLink (cnm (mrow k).2.2.2.2.2) x arraycopyName) = true := hp
  have hlo := C.2.2.2.2.2.2.2.2.2.1
  have hnf := nfw
  rcases hq with ⟨f, g, hs0, hd0, rfl⟩ | ⟨f, g, hs0, hd0, rfl⟩
  · intro H locs Ls hH hS hL
    obtain ⟨w1, -, -⟩ := hg_at (G := G) hs0
    obtain ⟨w2, hb, -⟩ := hg_at (G := G) hd0
    have hw : (r.map fun v => v.category).sum ≤ 8 := hw
    exact va_copyi C.1 C.2.1 (by rw [C.2.2.1]; exact hL.2.1.symm) C.own (C.wd _ (by rw [mrow_cls]; exact mG_in hp)) (C.wd _ (mG_in cw_cpy.1)) (C.wd _ (mG_in cw_cpy.2.1)) (C.wd _ (mG_in cw_cpy.2.2)) C.hK hH (aw_D E G ah) hS _ _ 0 0 w1 w2 rfl rfl rfl h1 h2 h3 h4 h5 (fun _ _ => rfl) (Nat.le_trans hc C.2.2.2.2.2.2.2.2.1) (by omega) hd (fun H1 locs1 k1 _ k3 => kks hb kk k1 k3 hL)
  · intro H locs Ls hH hS hL
    obtain ⟨w1, -, -⟩ := hg_at (G := G) hs0
    obtain ⟨w2, hb, -⟩ := hg_at (G := G) hd0
    have hw : (r.map fun v => v.category).sum ≤ 8 := hw
    exact va_copyl C.1 C.2.1 (by rw [C.2.2.1]; exact hL.2.1.symm) C.own (C.wd _ (by rw [mrow_cls]; exact mG_in hp)) (C.wd _ (mG_in cw_cpy.1)) (C.wd _ (mG_in cw_cpy.2.1)) (C.wd _ (mG_in cw_cpy.2.2)) C.hK hH (aw_D E G ah) hS _ _ 1 1 w1 w2 rfl rfl rfl h1 h2 h3 h4 h5 (fun _ _ => rfl) (Nat.le_trans hc C.2.2.2.2.2.2.2.2.1) (by omega) hd (fun H1 locs1 k1 _ k3 => kks hb kk k1 k3 hL)
/-- the contract of a run: its start, its end, its room -/
noncomputable def aPc (E : aEnv) (G : aG) (As : List Value) (ah : aHp) : Array Value → State → Prop := va_Pc As (fun U => HR E G ah U.heap ∧ U.heap.size = E.1 + ah.length ∧ GS E G U)
noncomputable def aQc (E : aEnv) (G : aG) (r : Option Value) (ahF : aHp) : Array Value → State → Outcome → State → Prop := fun _ st oc t => oc = .returned r ∧ HR E G ahF t.heap ∧ va_F (fun q => E.1 ≤ q) st t
noncomputable def rmc (c mc : Nat) : Room := { frames := c, cells := mc, slots := wid * mc, locals := 100 * c }
noncomputable def MetA (E : aEnv) (G : aG) (l : Launch) (c n : Nat) (As : List Value) (ah : aHp) (r : Option Value) (ahF : aHp) : Prop :=
  Met l (mrow n).1 (.code (mrow n).1 (mrow n).2.1 (mrow n).2.2.1 (mrow n).2.2.2.1 :: lw_g) (rmc c (ahF.length - ah.length)) (aPc E G As ah) (aQc E G r ahF) (ahF.length - ah.length) (wid * (ahF.length - ah.length)) (fun q => E.1 ≤ q)
theorem aPc_blind (As : List Value) : FrameBlind (aPc E G As ah) := fun a U g mk h => ⟨h.1, h.2.1, h.2.2.1, h.2.2.2.calling g mk a⟩
theorem aw_go {H : Heap} {locs : List Loc} {Ls : Array Slot} {cells slots mc ms : Nat} {st0 rest : List Value} {r : Option Value} {ahF : aHp} {a : Array Value} (hr : va_Run p l e R s m args below meth cd H locs cells slots mc ms (F0 m pc Ls st0) rest (aQc E G r ahF a) (fun q => E.1 ≤ q)) (hS : va_S (fun q => E.1 ≤ q) s.heap H locs)
    (kk : ∀ (H1 : Heap) (locs1 : List Loc), HR E G ahF H1 → va_S (fun q => E.1 ≤ q) s.heap H1 locs1 → W p l e R s m args below meth cd H1 locs1 (cells + mc) (slots + ms) Q (F0 m (pc + 3) Ls (r.toList ++ rest))) : W p l e R s m args below meth cd H locs cells slots Q (F0 m pc Ls st0) := by
  intro T hT X
  obtain ⟨v, st₀, t, T', L, h0, X', hL, e1, e2, ⟨hv, hb, hz, hk⟩, st⟩ := hr T hT X
  cases hv
  rw [h0] at hz hk
  obtain ⟨t2, a1, b1⟩ := kk T'.heap (locs ++ L) (by rw [e1]; exact hb)
    ⟨Nat.le_trans hS.1 (by rw [e1]; exact hz), fun q h1 h2 => by rw [e1, hk q (Nat.lt_of_lt_of_le h1 hS.1) h2]; exact hS.2.1 q h1 h2, fun q hq => by
      rcases List.mem_append.mp hq with h | h
      · exact hS.2.2 q h
      · exact hL q h⟩ T' rfl X'
  exact ⟨t2, st t2 a1, b1⟩
theorem goodIn_all {ws : List Jvm.Cond} (h : ∀ w ∈ ws, w ∈ lw_g) : GoodIn lw_g ws := fun w hw => lw_g_good w (h w hw)
/-- a method's words -/
theorem mo_at {n : Nat} (h : n < 298) : Jvm.Cond.code (mrow n).1 (mrow n).2.1 (mrow n).2.2.1 (mrow n).2.2.2.1 ∈ lw_g ∧ Jvm.Cond.initialized (mrow n).1.cls ∈ lw_g ∧ plainFor (mrow n).1 = true ∧ ((mrow n).1.cls ≠ "java/lang/invoke/MethodHandle" ∧ (mrow n).1.cls ≠ "java/lang/invoke/VarHandle") ∧ (mrow n).2.2.1 ≤ 60 ∧
    ((mkd n = 0 ∧ Jvm.Cond.static (mrow n).1 ∈ lw_g ∧ (parseMethodDescriptor (mrow n).1.desc).map (fun d => d.parameters.length) = some (mrow n).2.2.2.2.1) ∨
     (mkd n = 1 ∧ Jvm.Cond.instanceMethod (mrow n).1 ∈ lw_g ∧ Jvm.Cond.selects (mrow n).1.cls (mrow n).1 (mrow n).1 ∈ lw_g ∧ (parseMethodDescriptor (mrow n).1.desc).map (fun d => d.parameters.length + 1) = some (mrow n).2.2.2.2.1 ∧ (vwCl[(mrow n).2.2.2.2.2]?).map (fun q => q.1) = some (mrow n).1.cls) ∨
     (mkd n = 2 ∧ Jvm.Cond.instanceMethod (mrow n).1 ∈ lw_g ∧ (parseMethodDescriptor (mrow n).1.desc).map (fun d => d.parameters.length + 1) = some (mrow n).2.2.2.2.1 ∧ (mrow n).1.name = "<init>" ∧ (mrow n).2.2.2.1 = none)) := by
  obtain ⟨q, hq⟩ := mo_ok h
  unfold moK at hq
  simp only [Bool.and_eq_true, decide_eq_true_eq] at hq
  obtain ⟨⟨⟨⟨h1, h2⟩, h3⟩, h4, h5⟩, h6⟩ := hq
  have hm : mrow n ∈ mtab := by
    unfold mrow
    have hl : n < mtab.length := by rw [mtab_len]; omega
    rw [List.getElem?_eq_getElem hl]
    exact List.getElem_mem hl
  refine ⟨List.mem_filter.mpr ⟨mtab_c _ hm h1, rfl⟩, mG_in h2, h3, h4, h5, ?_⟩
  split at h6
  · next hk =>
    simp only [Bool.and_eq_true, decide_eq_true_eq] at h6
    exact Or.inl ⟨hk, mG_in h6.1, h6.2⟩
  · next hk =>
    simp only [Bool.and_eq_true, decide_eq_true_eq] at h6
    exact Or.inr (Or.inl ⟨hk, mG_in h6.1.1, mG_in h6.1.2, h6.2.1, h6.2.2⟩)
  · next hk =>
    simp only [Bool.and_eq_true, decide_eq_true_eq] at h6
    exact Or.inr (Or.inr ⟨hk, mG_in h6.1, h6.2.1, h6.2.2.1, h6.2.2.2⟩)
  · cases h6
theorem ml_at {x : Nat} {q : Nat × Bool} (h : lk MLs (mrow k).2.2.2.2.2 x = some q) : q.1 < 298 ∧ (if q.2 then Jvm.Cond.methodLinkNest (mrow k).1.cls x (mrow q.1).1 "WheelTables" ∈ nst else Jvm.Cond.methodLink (mrow k).1.cls x (mrow q.1).1 ∈ lw_g) := by
  obtain ⟨pp, hp⟩ := zOK_at MLs_ok (lk_in h)
  unfold mlOK at hp
  simp only [Bool.and_eq_true, decide_eq_true_eq] at hp
  refine ⟨hp.2, ?_⟩
  rw [mrow_cls]
  have h1 := hp.1
  by_cases hn : q.2 = true
  · rw [if_pos hn] at h1 ⊢
    simpa using h1
  · rw [if_neg hn] at h1 ⊢
    exact mG_in h1
end CALLS

/-! THE REAL MACHINE DOES WHAT THE ABSTRACT ONE DOES -/
theorem Met_ofWF {l : Launch} {y : MethodName} {ws ws' : List Jvm.Cond} {rm : Room} {Pc : Array Value → State → Prop} {Qc : Array Value → State → Outcome → State → Prop} {mc ms : Nat} {free : Addr → Prop} {cc : ByteArray} {maxL : Nat} {ret : Option FieldType}
    (hy : plainFor y = true) (hw : ws = Jvm.Cond.code y cc maxL ret :: ws')
    (body : ∀ p e s m args below meth c s₁, BodyLoose p l y (headSpec ws rm) cc maxL ret e s m args below meth c s₁ → c.maxLocals = maxL → Pc args s →
      W p l e (headSpec ws rm).room s m args below meth c s.heap [] 0 0 (MQ below Qc args s mc ms free) (entryFrame m args maxL)) : Met l y ws rm Pc Qc mc ms free := by
  refine MetFree.of_bodySF (code := cc) (maxLocals := maxL) (ret := ret) hy ?_ ?_
  · intro args s m h hn
    obtain ⟨meth, c, h1, h2, h3, h4, h5, h6, -, -⟩ := Cond.code_spec hn (atoms_spec (ws := ws) h _ (by rw [hw]; exact List.mem_cons_self))
    exact ⟨meth, c, h1, h2, h3, h4, h5, h6⟩
  · intro p e s m args below meth c s₁ B hml hP _
    have hh0 : s₁.heap = s.heap := by rw [B.state]; rfl
    obtain ⟨t, a1, o, b1, b2, b3⟩ := body p e s m args below meth c s₁ B hml hP s₁ hh0 (Stand.of_body B)
    exact ⟨t, o, a1, b1, b2, ⟨b3.1, b3.2⟩⟩
/-- texts: their length, their signs; shown in a part of its own -/
noncomputable def SXr (E : aEnv) (G : aG) : Prop := ∀ (c k : Nat) (p : Program) (l : Launch) (e : Env) (R : Room) (s : State) (m : MethodId) (args : Array Value) (below : List Frame) (meth : Method) (cd : Code) (Q : State → Prop) (pc x j : Nat) (ls : aLs) (st : List Value) (ah : aHp) (q : List Value × aHp),
  Cx E G c k p R s m args meth cd → 6 ≤ c → (j = 0 ∨ j = 1) → lk XLs (mrow k).2.2.2.2.2 x = some j → decode (mrow k).2.1 pc = .ok (.invokevirtual x, 3) → xtA E (.ldc_w j) st ah = some q → wds q.1 ≤ 8 → KK E G k p l e R s m args below meth cd Q (pc + 3, ls, q.1, q.2) → KK E G k p l e R s m args below meth cd Q (pc, ls, st, ah)
theorem hw_len {E : aEnv} {I : Instr} {st : List Value} {ah : aHp} {q : List Value × aHp} (h : hwA E I st ah = some q) : ah.length ≤ q.2.length := by
  unfold hwA at h
  split at h
  · obtain ⟨_, _, _, _, _, _, _, _, rfl⟩ := pF_is h; simp [hs_len]
  · obtain ⟨_, _, _, _, _, _, _, _, _, rfl⟩ := pI_is h; simp [hs_len]
  · obtain ⟨_, _, _, _, _, _, _, _, _, rfl⟩ := pL_is h; simp [hs_len]
  · obtain ⟨_, _, _, _, _, _, _, _, ⟨_, rfl⟩ | ⟨_, rfl⟩⟩ := pB_is h <;> simp [hs_len]
  · obtain ⟨_, _, _, _, _, _, _, _, _, _, _, _, _, rfl⟩ := pA_is h; simp [hs_len]
  · split at h
    · cases h
    · obtain ⟨_, _, _, _, _, rfl⟩ := nR_is h; simp
  · split at h
    · obtain ⟨_, _, _, _, _, rfl⟩ := nR_is h; simp
    · cases h
  · obtain ⟨_, rfl⟩ := nO_is h; simp
  · obtain ⟨_, _, _, _, _, _, _, _, _, rfl⟩ := nM_is h; simp
  · cases h
theorem xt_len {E : aEnv} {I : Instr} {st : List Value} {ah : aHp} {q : List Value × aHp} (h : xtA E I st ah = some q) : q.2.length = ah.length := by
  unfold xtA at h
  split at h
  · obtain ⟨_, _, rfl⟩ := Option.map_eq_some_iff.mp h; rfl
  · obtain ⟨_, _, rfl⟩ := Option.map_eq_some_iff.mp h; rfl
  · obtain ⟨_, _, _, _, _, _, _, _, _, _, ⟨_, _, _, _, rfl⟩ | ⟨_, _, _, _, rfl⟩⟩ := cY_is h <;> simp [hs_len]
  · obtain ⟨_, _, rfl⟩ := Option.map_eq_some_iff.mp h; rfl
  · cases h
theorem st1_len {E : aEnv} {I : Instr} {i : Nat} {ls : aLs} {st : List Value} {ah : aHp} {z : Nat × aLs × List Value × aHp} (h : st1 E I i ls st ah = some z) : ah.length ≤ z.2.2.2.length := by
  unfold st1 at h
  split at h
  · cases h; exact Nat.le_refl _
  · split at h
    · cases h; exact Nat.le_refl _
    · split at h
      · cases h; exact Nat.le_refl _
      · split at h
        · cases h; exact Nat.le_refl _
        · split at h
          · cases h; exact Nat.le_refl _
          · split at h
            · next hw => cases h; exact hw_len hw
            · cases h
theorem RM.mono {E : aEnv} {R : Room} {s : State} {a b : aHp} (h : RM E R s b) (hl : a.length ≤ b.length) : RM E R s a := by
  obtain ⟨h1, h2⟩ := h
  have h3 : E.1 + a.length - s.heap.size ≤ E.1 + b.length - s.heap.size := by omega
  exact ⟨Nat.le_trans h3 h1, Nat.le_trans (Nat.mul_le_mul_left _ h3) h2⟩
theorem take_rev {st : List Value} {na : Nat} {a : Value} {As : List Value} (h : (st.take na).reverse = a :: As) : st = As.reverse ++ a :: st.drop na := by
  have h1 : st.take na = As.reverse ++ [a] := by rw [← List.reverse_reverse (st.take na), h, List.reverse_cons]
  have h2 := List.take_append_drop na st
  rw [h1, List.append_assoc] at h2
  exact h2.symm
section SOUND
variable {E : aEnv} {G : aG} {c k : Nat} {p : Program} {l : Launch} {e : Env} {R : Room} {s : State} {m : MethodId} {args : Array Value} {below : List Frame} {meth : Method} {cd : Code} {Q : State → Prop}
variable {pc : Nat} {ls : aLs} {st : List Value} {ah : aHp}
theorem cok_is {n h : Nat} (hc : cok E ah n h st = true) : (mrow n).2.2.2.2.1 ≤ st.length ∧ rcv E ah n h (st.take (mrow n).2.2.2.2.1).reverse = true ∧ wds (st.drop (mrow n).2.2.2.2.1) ≤ 8 ∧ (exL (st.take (mrow n).2.2.2.2.1).reverse).length ≤ (mrow n).2.2.1 := by
  simp only [cok, Bool.and_eq_true, decide_eq_true_eq] at hc
  exact ⟨hc.1.1, hc.1.2, hc.2.1, hc.2.2⟩
theorem w_call {x n h : Nat} {q : Nat × Bool} {raw : Instr} {r : Option Value} {ahF : aHp} (C : Cx E G (c + 1) k p R s m args meth cd) (hn : s.heap.size ≤ E.1 + ah.length) (hR : RM E R s ahF) (hle : ah.length ≤ ahF.length)
    (hl : lk MLs (mrow k).2.2.2.2.2 x = some q) (hq : q.1 = n) (hm : mkd n = h) (hraw : (raw = .invokestatic x ∧ h = 0) ∨ (raw = .invokevirtual x ∧ h = 1) ∨ (raw = .invokespecial x ∧ h = 2)) (hd : decode (mrow k).2.1 pc = .ok (raw, 3)) (hcok : cok E ah n h st = true)
    (hM : MetA E G l c n (st.take (mrow n).2.2.2.2.1).reverse ah r ahF) (kk : KK E G k p l e R s m args below meth cd Q (pc + 3, ls, r.toList ++ st.drop (mrow n).2.2.2.2.1, ahF)) : KK E G k p l e R s m args below meth cd Q (pc, ls, st, ah) := by
  subst hq
  obtain ⟨hn3, hlk⟩ := ml_at hl
  obtain ⟨w1, w2, -, hc2, hmx, hkind⟩ := mo_at hn3
  obtain ⟨hlen, hrcv, hwd, hex⟩ := cok_is hcok
  intro H locs Ls hH hS hL
  refine W_size fun hz => ?_
  have hsz := hsz_of C hn hH hS hz
  have hfr := C.2.2.2.2.2.2.2.2.1
  have hlo := C.2.2.2.2.2.2.2.2.2.1
  have S : CallFix p m cd (mrow k).2.1 (mrow k).2.2.1 s args lw_g (mrow k).1.cls := ⟨C.1, C.2.1, C.2.2.1, C.own, C.wd⟩
  have hws : ∀ w ∈ (Jvm.Cond.code (mrow q.1).1 (mrow q.1).2.1 (mrow q.1).2.2.1 (mrow q.1).2.2.2.1 :: lw_g), w ∈ lw_g := fun w hw => by
    rcases List.mem_cons.mp hw with rfl | h
    · exact w1
    · exact h
  have hRm : (rmc c (ahF.length - ah.length)).frames + 1 ≤ R.frames ∧ 8 + ((mrow q.1).2.2.1 + 11) + (rmc c (ahF.length - ah.length)).locals ≤ R.locals := by
    simp only [rmc]
    omega
  have hmul : wid * (E.1 + ahF.length - s.heap.size) = wid * (E.1 + ah.length - s.heap.size) + wid * (ahF.length - ah.length) := by
    rw [← Nat.mul_add]
    congr 1
    omega
  have hf : E.1 + ah.length - s.heap.size + (ahF.length - ah.length) ≤ R.cells ∧ wid * (E.1 + ah.length - s.heap.size) + wid * (ahF.length - ah.length) ≤ R.slots := by
    obtain ⟨r1, r2⟩ := hR
    rw [hmul] at r2
    exact ⟨by omega, r2⟩
  have hPc : ∀ U : State, U.heap = H → s.WarmedH U.vm → aPc E G (st.take (mrow q.1).2.2.2.2.1).reverse ah (st.take (mrow q.1).2.2.2.2.1).reverse.toArray U := fun U hU hW =>
    ⟨rfl, by rw [hU]; exact hH, by rw [hU]; exact hsz, C.gs.go hW (by rw [hU, hsz]; omega) (fun y hy => by rw [hU]; exact hS.2.1 y (Nat.lt_of_lt_of_le hy C.gs.2.2.2.2.1) (Nat.not_le.mpr hy))⟩
  have kk' : ∀ (H1 : Heap) (locs1 : List Loc), HR E G ahF H1 → va_S (fun q => E.1 ≤ q) s.heap H1 locs1 → W p l e R s m args below meth cd H1 locs1 (E.1 + ah.length - s.heap.size + (ahF.length - ah.length)) (wid * (E.1 + ah.length - s.heap.size) + wid * (ahF.length - ah.length)) Q (F0 m (pc + 3) Ls (r.toList ++ st.drop (mrow q.1).2.2.2.2.1)) := fun H1 locs1 h1 h2 => by
    have k1 := kk H1 locs1 Ls h1 h2 hL
    dsimp only at k1
    rw [hmul] at k1
    rw [show E.1 + ahF.length - s.heap.size = E.1 + ah.length - s.heap.size + (ahF.length - ah.length) by omega] at k1
    exact k1
  rcases hkind with ⟨hk0, ws1, hpar⟩ | ⟨hk1, ws1, ws2, hpar, hcl⟩ | ⟨hk2, ws1, hpar, hnm, hret⟩
  · -- of a class
    obtain ⟨rfl, rfl⟩ : raw = .invokestatic x ∧ h = 0 := by
      rcases hraw with ⟨h1, h2⟩ | ⟨h1, h2⟩ | ⟨h1, h2⟩
      · exact ⟨h1, h2⟩
      · omega
      · omega
    have hst : st = (st.take (mrow q.1).2.2.2.2.1).reverse.reverse ++ st.drop (mrow q.1).2.2.2.2.1 := by rw [List.reverse_reverse, List.take_append_drop]
    have hal : (st.take (mrow q.1).2.2.2.2.1).reverse.length = (mrow q.1).2.2.2.2.1 := by rw [List.length_reverse, List.length_take]; omega
    by_cases hne : q.2 = true
    · rw [if_pos hne] at hlk
      exact aw_go (va_runSN S hM ⟨va_cnB _ C.wd (goodIn_all hws) rfl rfl rfl (C.gs.2.1 _ hlk) (C.wd _ w2) ⟨hc2.1, hc2.2, hpar⟩ hRm, C.wd _ ws1, trivial⟩ ⟨aPc_blind _, hPc⟩ rfl hal hL.2.1 hst (lv_room hwd) hd hf) hS kk'
    · rw [if_neg hne] at hlk
      exact aw_go (va_runS S hM ⟨callB_of _ C.wd (goodIn_all hws) rfl rfl rfl (C.wd _ w2) (C.wd _ hlk) ⟨hc2.1, hc2.2, hpar⟩ hRm, C.wd _ ws1⟩ ⟨aPc_blind _, hPc⟩ rfl hal hL.2.1 hst (lv_room hwd) hd hf) hS kk'
  · -- of an object
    obtain ⟨rfl, rfl⟩ : raw = .invokevirtual x ∧ h = 1 := by
      rcases hraw with ⟨h1, h2⟩ | ⟨h1, h2⟩ | ⟨h1, h2⟩
      · omega
      · exact ⟨h1, h2⟩
      · omega
    unfold rcv at hrcv
    split at hrcv
    · next he => cases he
    · next b As _ hAs =>
      split at hrcv
      · next ci fs hg1 =>
        have hci : ci = (mrow q.1).2.2.2.2.2 := by simpa using hrcv
        subst hci
        obtain ⟨q3, hq3, hq4⟩ := Option.map_eq_some_iff.mp hcl
        have hst := take_rev hAs
        rw [hAs] at hM hPc
        have hrec := va_recv C.hK hH hq3 (hg_at (G := G) hg1).1
        rw [hq4] at hrec
        have hal : As.length + 1 = (mrow q.1).2.2.2.2.1 := by
          have : (st.take (mrow q.1).2.2.2.2.1).reverse.length = (mrow q.1).2.2.2.2.1 := by rw [List.length_reverse, List.length_take]; omega
          rw [hAs] at this
          exact this
        have hpar' : (parseMethodDescriptor (mrow q.1).1.desc).map (fun d => d.parameters.length) = some As.length := by
          cases hpd : parseMethodDescriptor (mrow q.1).1.desc with
          | none => rw [hpd] at hpar; cases hpar
          | some d =>
            rw [hpd] at hpar
            simp at hpar ⊢
            omega
        by_cases hne : q.2 = true
        · rw [if_pos hne] at hlk
          exact aw_go (va_runVN S hM ⟨va_cnB _ C.wd (goodIn_all hws) rfl rfl rfl (C.gs.2.1 _ hlk) (C.wd _ w2) ⟨hc2.1, hc2.2, hpar'⟩ hRm, C.wd _ ws1, C.wd _ ws2⟩ ⟨aPc_blind _, hrec, hPc⟩ rfl rfl hL.2.1 hst (lv_room hwd) hd hf) hS kk'
        · rw [if_neg hne] at hlk
          exact aw_go (va_runV S hM ⟨callB_of _ C.wd (goodIn_all hws) rfl rfl rfl (C.wd _ w2) (C.wd _ hlk) ⟨hc2.1, hc2.2, hpar'⟩ hRm, C.wd _ ws1, C.wd _ ws2⟩ ⟨aPc_blind _, hrec, hPc⟩ rfl rfl hL.2.1 hst (lv_room hwd) hd hf) hS kk'
      · cases hrcv
    · next he _ => cases he
    · cases hrcv
  · -- of a new object
    obtain ⟨rfl, rfl⟩ : raw = .invokespecial x ∧ h = 2 := by
      rcases hraw with ⟨h1, h2⟩ | ⟨h1, h2⟩ | ⟨h1, h2⟩
      · omega
      · omega
      · exact ⟨h1, h2⟩
    unfold rcv at hrcv
    split at hrcv
    · next he => cases he
    · next he _ => cases he
    · next b As _ hAs =>
      have hst := take_rev hAs
      rw [hAs] at hM hPc
      have hal : As.length + 1 = (mrow q.1).2.2.2.2.1 := by
        have : (st.take (mrow q.1).2.2.2.2.1).reverse.length = (mrow q.1).2.2.2.2.1 := by rw [List.length_reverse, List.length_take]; omega
        rw [hAs] at this
        exact this
      have hpar' : (parseMethodDescriptor (mrow q.1).1.desc).map (fun d => d.parameters.length) = some As.length := by
        cases hpd : parseMethodDescriptor (mrow q.1).1.desc with
        | none => rw [hpd] at hpar; cases hpar
        | some d =>
          rw [hpd] at hpar
          simp at hpar ⊢
          omega
      unfold MetA at hM
      rw [hret] at hM hws
      by_cases hne : q.2 = true
      · rw [if_pos hne] at hlk
        exact aw_go (va_runIN S hM ⟨va_cnB _ C.wd (goodIn_all hws) rfl rfl rfl (C.gs.2.1 _ hlk) (C.wd _ w2) ⟨hc2.1, hc2.2, hpar'⟩ hRm, hnm, C.wd _ ws1⟩ ⟨aPc_blind _, hPc⟩ rfl rfl hL.2.1 hst (lv_room hwd) hd hf) hS kk'
      · rw [if_neg hne] at hlk
        exact aw_go (va_runI S hM ⟨callB_of _ C.wd (goodIn_all hws) rfl rfl rfl (C.wd _ w2) (C.wd _ hlk) ⟨hc2.1, hc2.2, hpar'⟩ hRm, hnm, C.wd _ ws1⟩ ⟨aPc_blind _, hPc⟩ rfl rfl hL.2.1 hst (lv_room hwd) hd hf) hS kk'
    · cases hrcv
end SOUND

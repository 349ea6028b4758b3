/-! The machine does what the abstract one does, texts and all -/
noncomputable def MetB (E : aEnv) (G : aG) (V : Nat → Nat) (l : Launch) (c n : Nat) (As : List Value) (ah : aHp) (r : Option Value) (ahF : aHp) : Prop :=
  Met l (mrow n).1 (.code (mrow n).1 (mrow n).2.1 (mrow n).2.2.1 (mrow n).2.2.2.1 :: lw_g) (rmc c (ahF.length - ah.length)) (bPc E G V As ah) (aQc E G r ahF) (ahF.length - ah.length) (wid * (ahF.length - ah.length)) (fun q => E.1 ≤ q)
noncomputable def Snd2 (E : aEnv) (G : aG) (V : Nat → Nat) (l : Launch) (c k pc : Nat) (ls : aLs) (st : List Value) (ah : aHp) (r : Option Value) (ahF : aHp) : Prop :=
  ah.length ≤ ahF.length ∧ ∀ (p : Program) (e : Env) (R : Room) (s : State) (m : MethodId) (args : Array Value) (below : List Frame) (meth : Method) (cd : Code) (Q : State → Prop),
    Cx E G c k p R s m args meth cd → TX E V s → s.heap.size ≤ E.1 + ah.length → RM E R s ahF → RetK E G k p l e R s m args below meth cd Q r ahF → KK E G k p l e R s m args below meth cd Q (pc, ls, st, ah)
theorem gX0 {E : aEnv} {st r : List Value} (h : gX E 0 st = some r) : ∃ a cs r0, st = .ref a :: r0 ∧ E.2.2.2 a = some cs ∧ r = .int (Int32.ofNat cs.length) :: r0 := by
  unfold gX at h
  split at h
  · next a r0 =>
    rw [if_pos rfl] at h
    split at h
    · next cs hc =>
      cases h
      exact ⟨a, cs, r0, rfl, hc, rfl⟩
    · cases h
  · rw [if_neg (by decide)] at h
    cases h
  · cases h
theorem gX1 {E : aEnv} {st r : List Value} (h : gX E 1 st = some r) : ∃ a k cs r0, st = .int (nI k) :: .ref a :: r0 ∧ E.2.2.2 a = some cs ∧ k < cs.length ∧ r = .int (cs.getD k 0) :: r0 := by
  unfold gX at h
  split at h
  · rw [if_neg (by decide)] at h
    cases h
  · next i a r0 =>
    rw [if_pos rfl] at h
    split at h
    · next cs hc =>
      split at h
      · cases h
      · next hn =>
        cases h
        obtain ⟨j, hj, rfl⟩ := nI_of (x := i) (fun z => hn (Or.inl z))
        rw [nI_clamp hj] at hn ⊢
        exact ⟨a, j, cs, r0, rfl, hc, by omega, rfl⟩
    · cases h
  · cases h
section SOUND2
variable {E : aEnv} {G : aG} {V : Nat → Nat} {c k : Nat} {p : Program} {l : Launch} {e : Env} {R : Room} {s : State} {m : MethodId} {args : Array Value} {below : List Frame} {meth : Method} {cd : Code} {Q : State → Prop}
variable {pc : Nat} {ls : aLs} {st : List Value} {ah : aHp}
theorem sx_go {x j : Nat} {q : List Value × aHp} (C : Cx E G c k p R s m args meth cd) (hT : TX E V s) (hn : s.heap.size ≤ E.1 + ah.length) (hR : RM E R s ah) (hc : 6 ≤ c) (hj : j = 0 ∨ j = 1) (hk : lk XLs (mrow k).2.2.2.2.2 x = some j) (hd : decode (mrow k).2.1 pc = .ok (.invokevirtual x, 3)) (h : xtA E (.ldc_w j) st ah = some q) (hw : wds q.1 ≤ 8) (kk : KK E G k p l e R s m args below meth cd Q (pc + 3, ls, q.1, q.2)) : KK E G k p l e R s m args below meth cd Q (pc, ls, st, ah) := by
  obtain ⟨pp, hp⟩ := zOK_at XLs_ok (lk_in hk)
  have hfr := C.2.2.2.2.2.2.2.2.1
  have hlo := C.2.2.2.2.2.2.2.2.2.1
  have S : CallFix p m cd (mrow k).2.1 (mrow k).2.2.1 s args lw_g (mrow k).1.cls := ⟨C.1, C.2.1, C.2.2.1, C.own, C.wd⟩
  rcases hj with rfl | rfl
  · have hp : mG pp (.methodLink (cnm (mrow k).2.2.2.2.2) x yLen) = true := hp
    obtain ⟨r, hr, rfl⟩ := Option.map_eq_some_iff.mp (show (gX E 0 st).map (fun r => (r, ah)) = some q from h)
    obtain ⟨a, cs, r0, rfl, ha, rfl⟩ := gX0 hr
    have hw0 : wds r0 ≤ 8 := by
      have : wds (.int (Int32.ofNat cs.length) :: r0) = 1 + wds r0 := rfl
      have hw : wds (.int (Int32.ofNat cs.length) :: r0) ≤ 8 := hw
      omega
    intro H locs Ls hH hS hL
    refine W_size fun hz => ?_
    exact j_V (c := 5) (As := []) (rest := r0) S C.gs hT (by omega) (by omega) hR (js_len (c := 4) ha) (by decide) tw_len.2.2 tw_0 (by rw [mrow_cls]; exact mG_in hp) tw_len.1 tw_len.2.1 ha ⟨by decide, by decide, rfl⟩ hH (hsz_of C hn hH hS hz) hS hL.2.1 hw0 hd (fun H1 locs1 hH1 hS1 => kk H1 locs1 Ls hH1 hS1 hL)
  · have hp : mG pp (.methodLink (cnm (mrow k).2.2.2.2.2) x yCha) = true := hp
    obtain ⟨r, hr, rfl⟩ := Option.map_eq_some_iff.mp (show (gX E 1 st).map (fun r => (r, ah)) = some q from h)
    obtain ⟨a, j, cs, r0, rfl, ha, hj, rfl⟩ := gX1 hr
    have hw0 : wds r0 ≤ 8 := by
      have : wds (.int (cs.getD j 0) :: r0) = 1 + wds r0 := rfl
      have hw : wds (.int (cs.getD j 0) :: r0) ≤ 8 := hw
      omega
    intro H locs Ls hH hS hL
    refine W_size fun hz => ?_
    exact j_V (c := 5) (As := [.int (nI j)]) (rest := r0) S C.gs hT (by omega) (by omega) hR (js_cha (c := 2) ha hj) (by decide) tw_cha.2.2 tw_0 (by rw [mrow_cls]; exact mG_in hp) tw_cha.1 tw_cha.2.1 ha ⟨by decide, by decide, rfl⟩ hH (hsz_of C hn hH hS hz) hS hL.2.1 hw0 hd (fun H1 locs1 hH1 hS1 => kk H1 locs1 Ls hH1 hS1 hL)
theorem w_call2 {x n h : Nat} {q : Nat × Bool} {raw : Instr} {r : Option Value} {ahF : aHp} (C : Cx E G (c + 1) k p R s m args meth cd) (hT : TX E V s) (hn : s.heap.size ≤ E.1 + ah.length) (hR : RM E R s ahF) (hle : ah.length ≤ ahF.length)
    (hl : lk MLs (mrow k).2.2.2.2.2 x = some q) (hq : q.1 = n) (hm : mkd n = h) (hraw : (raw = .invokestatic x ∧ h = 0) ∨ (raw = .invokevirtual x ∧ h = 1) ∨ (raw = .invokespecial x ∧ h = 2)) (hd : decode (mrow k).2.1 pc = .ok (raw, 3)) (hcok : cok E ah n h st = true)
    (hM : MetB E G V l c n (st.take (mrow n).2.2.2.2.1).reverse ah r ahF) (kk : KK E G k p l e R s m args below meth cd Q (pc + 3, ls, r.toList ++ st.drop (mrow n).2.2.2.2.1, ahF)) : KK E G k p l e R s m args below meth cd Q (pc, ls, st, ah) := by
  subst hq
  obtain ⟨hn3, hlk⟩ := ml_at hl
  obtain ⟨w1, w2, -, hc2, hmx, hkind⟩ := mo_at hn3
  obtain ⟨hlen, hrcv, hwd, hex⟩ := cok_is hcok
  intro H locs Ls hH hS hL
  refine W_size fun hz => ?_
  have hsz := hsz_of C hn hH hS hz
  have hfr := C.2.2.2.2.2.2.2.2.1
  have hlo := C.2.2.2.2.2.2.2.2.2.1
  have S : CallFix p m cd (mrow k).2.1 (mrow k).2.2.1 s args lw_g (mrow k).1.cls := ⟨C.1, C.2.1, C.2.2.1, C.own, C.wd⟩
  have hws : ∀ w ∈ (Jvm.Cond.code (mrow q.1).1 (mrow q.1).2.1 (mrow q.1).2.2.1 (mrow q.1).2.2.2.1 :: lw_g), w ∈ lw_g := fun w hw => by
    rcases List.mem_cons.mp hw with rfl | h
    · exact w1
    · exact h
  have hRm : (rmc c (ahF.length - ah.length)).frames + 1 ≤ R.frames ∧ 8 + ((mrow q.1).2.2.1 + 11) + (rmc c (ahF.length - ah.length)).locals ≤ R.locals := by
    simp only [rmc]
    omega
  have hmul : wid * (E.1 + ahF.length - s.heap.size) = wid * (E.1 + ah.length - s.heap.size) + wid * (ahF.length - ah.length) := by
    rw [← Nat.mul_add]
    congr 1
    omega
  have hf : E.1 + ah.length - s.heap.size + (ahF.length - ah.length) ≤ R.cells ∧ wid * (E.1 + ah.length - s.heap.size) + wid * (ahF.length - ah.length) ≤ R.slots := by
    obtain ⟨r1, r2⟩ := hR
    rw [hmul] at r2
    exact ⟨by omega, r2⟩
  have hPc : ∀ U : State, U.heap = H → s.WarmedH U.vm → bPc E G V (st.take (mrow q.1).2.2.2.2.1).reverse ah (st.take (mrow q.1).2.2.2.2.1).reverse.toArray U := j_pc C.gs hT hH hsz hS
  have kk' : ∀ (H1 : Heap) (locs1 : List Loc), HR E G ahF H1 → va_S (fun q => E.1 ≤ q) s.heap H1 locs1 → W p l e R s m args below meth cd H1 locs1 (E.1 + ah.length - s.heap.size + (ahF.length - ah.length)) (wid * (E.1 + ah.length - s.heap.size) + wid * (ahF.length - ah.length)) Q (F0 m (pc + 3) Ls (r.toList ++ st.drop (mrow q.1).2.2.2.2.1)) := fun H1 locs1 h1 h2 => by
    have k1 := kk H1 locs1 Ls h1 h2 hL
    dsimp only at k1
    rw [hmul] at k1
    rw [show E.1 + ahF.length - s.heap.size = E.1 + ah.length - s.heap.size + (ahF.length - ah.length) by omega] at k1
    exact k1
  rcases hkind with ⟨hk0, ws1, hpar⟩ | ⟨hk1, ws1, ws2, hpar, hcl⟩ | ⟨hk2, ws1, hpar, hnm, hret⟩
  · -- of a class
    obtain ⟨rfl, rfl⟩ : raw = .invokestatic x ∧ h = 0 := by
      rcases hraw with ⟨h1, h2⟩ | ⟨h1, h2⟩ | ⟨h1, h2⟩
      · exact ⟨h1, h2⟩
      · omega
      · omega
    have hst : st = (st.take (mrow q.1).2.2.2.2.1).reverse.reverse ++ st.drop (mrow q.1).2.2.2.2.1 := by rw [List.reverse_reverse, List.take_append_drop]
    have hal : (st.take (mrow q.1).2.2.2.2.1).reverse.length = (mrow q.1).2.2.2.2.1 := by rw [List.length_reverse, List.length_take]; omega
    by_cases hne : q.2 = true
    · rw [if_pos hne] at hlk
      exact aw_go (va_runSN S hM ⟨va_cnB _ C.wd (goodIn_all hws) rfl rfl rfl (C.gs.2.1 _ hlk) (C.wd _ w2) ⟨hc2.1, hc2.2, hpar⟩ hRm, C.wd _ ws1, trivial⟩ ⟨bPc_blind _, hPc⟩ rfl hal hL.2.1 hst (lv_room hwd) hd hf) hS kk'
    · rw [if_neg hne] at hlk
      exact aw_go (va_runS S hM ⟨callB_of _ C.wd (goodIn_all hws) rfl rfl rfl (C.wd _ w2) (C.wd _ hlk) ⟨hc2.1, hc2.2, hpar⟩ hRm, C.wd _ ws1⟩ ⟨bPc_blind _, hPc⟩ rfl hal hL.2.1 hst (lv_room hwd) hd hf) hS kk'
  · -- of an object
    obtain ⟨rfl, rfl⟩ : raw = .invokevirtual x ∧ h = 1 := by
      rcases hraw with ⟨h1, h2⟩ | ⟨h1, h2⟩ | ⟨h1, h2⟩
      · omega
      · exact ⟨h1, h2⟩
      · omega
    unfold rcv at hrcv
    split at hrcv
    · next he => cases he
    · next b As _ hAs =>
      split at hrcv
      · next ci fs hg1 =>
        have hci : ci = (mrow q.1).2.2.2.2.2 := by simpa using hrcv
        subst hci
        obtain ⟨q3, hq3, hq4⟩ := Option.map_eq_some_iff.mp hcl
        have hst := take_rev hAs
        rw [hAs] at hM hPc
        have hrec := va_recv C.hK hH hq3 (hg_at (G := G) hg1).1
        rw [hq4] at hrec
        have hal : As.length + 1 = (mrow q.1).2.2.2.2.1 := by
          have : (st.take (mrow q.1).2.2.2.2.1).reverse.length = (mrow q.1).2.2.2.2.1 := by rw [List.length_reverse, List.length_take]; omega
          rw [hAs] at this
          exact this
        have hpar' : (parseMethodDescriptor (mrow q.1).1.desc).map (fun d => d.parameters.length) = some As.length := by
          cases hpd : parseMethodDescriptor (mrow q.1).1.desc with
          | none => rw [hpd] at hpar; cases hpar
          | some d =>
            rw [hpd] at hpar
            simp at hpar ⊢
            omega
        by_cases hne : q.2 = true
        · rw [if_pos hne] at hlk
          exact aw_go (va_runVN S hM ⟨va_cnB _ C.wd (goodIn_all hws) rfl rfl rfl (C.gs.2.1 _ hlk) (C.wd _ w2) ⟨hc2.1, hc2.2, hpar'⟩ hRm, C.wd _ ws1, C.wd _ ws2⟩ ⟨bPc_blind _, hrec, hPc⟩ rfl rfl hL.2.1 hst (lv_room hwd) hd hf) hS kk'
        · rw [if_neg hne] at hlk
          exact aw_go (va_runV S hM ⟨callB_of _ C.wd (goodIn_all hws) rfl rfl rfl (C.wd _ w2) (C.wd _ hlk) ⟨hc2.1, hc2.2, hpar'⟩ hRm, C.wd _ ws1, C.wd _ ws2⟩ ⟨bPc_blind _, hrec, hPc⟩ rfl rfl hL.2.1 hst (lv_room hwd) hd hf) hS kk'
      · cases hrcv
    · next he _ => cases he
    · cases hrcv
  · -- of a new object
    obtain ⟨rfl, rfl⟩ : raw = .invokespecial x ∧ h = 2 := by
      rcases hraw with ⟨h1, h2⟩ | ⟨h1, h2⟩ | ⟨h1, h2⟩
      · omega
      · omega
      · exact ⟨h1, h2⟩
    unfold rcv at hrcv
    split at hrcv
    · next he => cases he
    · next he _ => cases he
    · next b As _ hAs =>
      have hst := take_rev hAs
      rw [hAs] at hM hPc
      have hal : As.length + 1 = (mrow q.1).2.2.2.2.1 := by
        have : (st.take (mrow q.1).2.2.2.2.1).reverse.length = (mrow q.1).2.2.2.2.1 := by rw [List.length_reverse, List.length_take]; omega
        rw [hAs] at this
        exact this
      have hpar' : (parseMethodDescriptor (mrow q.1).1.desc).map (fun d => d.parameters.length) = some As.length := by
        cases hpd : parseMethodDescriptor (mrow q.1).1.desc with
        | none => rw [hpd] at hpar; cases hpar
        | some d =>
          rw [hpd] at hpar
          simp at hpar ⊢
          omega
      unfold MetB at hM
      rw [hret] at hM hws
      by_cases hne : q.2 = true
      · rw [if_pos hne] at hlk
        exact aw_go (va_runIN S hM ⟨va_cnB _ C.wd (goodIn_all hws) rfl rfl rfl (C.gs.2.1 _ hlk) (C.wd _ w2) ⟨hc2.1, hc2.2, hpar'⟩ hRm, hnm, C.wd _ ws1⟩ ⟨bPc_blind _, hPc⟩ rfl rfl hL.2.1 hst (lv_room hwd) hd hf) hS kk'
      · rw [if_neg hne] at hlk
        exact aw_go (va_runI S hM ⟨callB_of _ C.wd (goodIn_all hws) rfl rfl rfl (C.wd _ w2) (C.wd _ hlk) ⟨hc2.1, hc2.2, hpar'⟩ hRm, hnm, C.wd _ ws1⟩ ⟨bPc_blind _, hPc⟩ rfl rfl hL.2.1 hst (lv_room hwd) hd hf) hS kk'
    · cases hrcv
end SOUND2
theorem metB_of {E : aEnv} {G : aG} {V : Nat → Nat} {l : Launch} {c n : Nat} {As : List Value} {ah : aHp} {r : Option Value} {ahF : aHp} (hn : n < 298) (hex : (exL As).length ≤ (mrow n).2.2.1) (h : Snd2 E G V l c n 0 (entL (mrow n).2.2.1 As) [] ah r ahF) : MetB E G V l c n As ah r ahF := by
  obtain ⟨w1, w2, hpl, -, hmx, -⟩ := mo_at hn
  obtain ⟨hle, h⟩ := h
  refine Met_ofWF (cc := (mrow n).2.1) (maxL := (mrow n).2.2.1) (ret := (mrow n).2.2.2.1) hpl rfl ?_
  intro p e s m args below meth cd s₁ B hml hv
  obtain ⟨rfl, hH, hsz, hG, hT⟩ := hv
  have hts := atoms_spec (ws := Jvm.Cond.code (mrow n).1 (mrow n).2.1 (mrow n).2.2.1 (mrow n).2.2.2.1 :: lw_g) B.pre
  have hown : s.vm.findClass (mrow n).1.cls = some m.cls := findClass_of_methodNamed B.named
  have hin : meth.name = (mrow n).1.name := (name_of_methodNamed B.named B.method).1
  have hlocks := B.notSynchronized
  have hx := B.exec
  have hb := B.bytes
  have hr := B.returns
  have C : Cx E G c n p (rmc c (ahF.length - ah.length)) s m As.toArray meth cd := ⟨hx, hb, hml, hr, hlocks, hin, hown, fun w hw => hts w (List.mem_cons_of_mem _ hw), Nat.le_refl _, Nat.le_refl _, hG⟩
  have e0 : E.1 + ah.length - s.heap.size = 0 := by omega
  have e1 : E.1 + ahF.length - s.heap.size = ahF.length - ah.length := by omega
  have k1 := h p e (rmc c (ahF.length - ah.length)) s m As.toArray below meth cd (MQ below (aQc E G r ahF) As.toArray s (ahF.length - ah.length) (wid * (ahF.length - ah.length)) (fun q => E.1 ≤ q)) C hT (by omega) (by
      unfold RM
      rw [e1]
      exact ⟨Nat.le_refl _, Nat.le_refl _⟩) (by
      intro pc Ls st H locs raw hd hF hHR hS
      rw [e1]
      have hq : ∀ t : State, t.heap = H → s.WarmedH t.vm → aQc E G r ahF As.toArray s (.returned r) t := fun t ht _ => ⟨rfl, by rw [ht]; exact hHR, hS.F ht⟩
      rcases hF with ⟨rfl, h1, x, rfl, rfl⟩ | ⟨rfl, h1, x, rfl, hx1, rfl⟩ | ⟨rfl, h1, x, rfl, rfl⟩ | ⟨rfl, ⟨rt, h1, h2⟩, v, rfl, hv, rfl⟩ | ⟨rfl, h1, rfl, rfl⟩
      · exact W.iret hx hb (by rw [hr]; exact h1) hq hS.2.2 hd hlocks
      · exact W.zret hx hb (by rw [hr]; exact h1) (by rcases hx1 with rfl | rfl <;> rfl) hq hS.2.2 hd hlocks
      · exact W.lret hx hb (by rw [hr]; exact h1) hq hS.2.2 hd hlocks
      · exact W.aret hx hb (by rw [hr]; exact h1) h2 hv hq hS.2.2 hd hlocks
      · exact W.vret hx hb (by rw [hr]; exact h1) hq hS.2.2 hd hlocks)
  have k2 := k1 s.heap [] ((lg_sl As ++ List.replicate ((mrow n).2.2.1 - (lg_sl As).length) Slot.unset).toArray) hH va_S.rf (LH.ent As hex)
  dsimp only at k2
  rw [e0, Nat.mul_zero] at k2
  rw [lg_entry_eq]
  exact k2
theorem snd_all2 {E : aEnv} {G : aG} {V : Nat → Nat} (l : Launch) : ∀ (f c k pc : Nat) (ls : aLs) (st : List Value) (ah : aHp) (r : Option Value) (ahF : aHp), rn E f c k pc ls st ah = some (r, ahF) → Snd2 E G V l c k pc ls st ah r ahF
  | 0, _, _, _, _, _, _, _, _, h => by simp [rn] at h
  | f + 1, c, k, pc, ls, st, ah, r, ahF, h => by
    have IH := snd_all2 (E := E) (G := G) (V := V) l f
    unfold rn at h
    split at h
    · cases h
    · next J hJ =>
      obtain ⟨I, npc⟩ := J
      dsimp only at h
      obtain ⟨raw, n, hd, hln, hr, rfl⟩ := ins_raw hJ
      split at h
      · next r1 hr1 =>
        cases h
        refine ⟨Nat.le_refl _, fun p e R s m args below meth cd Q C hT hn hR hK H locs Ls hH hS hL => ?_⟩
        have h3 := rsv_ret hr hr1
        have h4 : n = 1 := by
          rcases h3 with ⟨rfl, _⟩ | ⟨rfl, _⟩ | ⟨rfl, _⟩ | ⟨rfl, _⟩ | ⟨rfl, _⟩ <;> simpa [lnI] using hln
        subst h4
        exact hK pc Ls st H locs raw hd h3 hH hS
      · split at h
        · next q hq =>
          obtain ⟨n1, h1⟩ := q
          split at h
          · cases h
          · next c' =>
            split at h
            · next hcok =>
              split at h
              · cases h
              · next z hz =>
                obtain ⟨x, q2, hl, hq2, hm, hraw⟩ := rsv_call hr hq
                have hn3 : n = 3 := by rcases hraw with ⟨rfl, _⟩ | ⟨rfl, _⟩ | ⟨rfl, _⟩ <;> simpa [lnI] using hln
                subst hn3
                obtain ⟨r1, ah1⟩ := z
                have i1 := IH _ _ _ _ _ _ _ _ hz
                have i2 := IH _ _ _ _ _ _ _ _ h
                dsimp only at i1 i2
                refine ⟨Nat.le_trans i1.1 i2.1, fun p e R s m args below meth cd Q C hT hn hR hK => ?_⟩
                have hlt : n1 < 298 := by rw [← hq2]; exact (ml_at hl).1
                exact w_call2 C hT hn (hR.mono i2.1) i1.1 hl hq2 hm hraw hd hcok (metB_of hlt (cok_is hcok).2.2.2 i1) (i2.2 p e R s m args below meth cd Q C hT (Nat.le_trans hn (Nat.add_le_add_left i1.1 _)) hR hK)
            · cases h
        · split at h
          · next q hq =>
            split at h
            · cases h
            · next hcw =>
              have i2 := IH _ _ _ _ _ _ _ _ h
              have hle := xt_len hq
              refine ⟨by rw [← hle]; exact i2.1, fun p e R s m args below meth cd Q C hT hn hR hK => ?_⟩
              have k2 := i2.2 p e R s m args below meth cd Q C hT (by rw [hle]; exact hn) hR hK
              have hw : wds q.1 ≤ 8 := by omega
              have hcd : dpt I ≤ c := by omega
              have hI : ∃ j, I = .ldc_w j := by
                unfold xtA at hq
                split at hq <;> first | exact ⟨_, rfl⟩ | cases hq
              obtain ⟨j, rfl⟩ := hI
              obtain ⟨x, hl, hj⟩ := rsv_xt hr rfl
              have hn3 : n = 3 := by rcases hj with ⟨rfl, _⟩ | ⟨rfl, _⟩ | ⟨rfl, _⟩ <;> simpa [lnI] using hln
              subst hn3
              rcases hj with ⟨rfl, rfl⟩ | ⟨rfl, hj⟩ | ⟨rfl, rfl⟩
              · exact x_copy C hcd hl hd hq hw k2
              · exact sx_go C hT hn (hR.mono (by rw [← hle]; exact i2.1)) (by rcases hj with rfl | rfl <;> exact hcd) hj hl hd hq hw k2
              · exact x_obj C hcd hl hd hq hw k2
          · split at h
            · cases h
            · next z hz =>
              have i2 := IH _ _ _ _ _ _ _ _ h
              have hle := st1_len hz
              refine ⟨Nat.le_trans hle i2.1, fun p e R s m args below meth cd Q C hT hn hR hK => ?_⟩
              have k2 := i2.2 p e R s m args below meth cd Q C hT (Nat.le_trans hn (Nat.add_le_add_left hle _)) hR hK
              exact stp C hn (hR.mono i2.1) hJ hz k2

/-! the induction -/
noncomputable def retF (k : Nat) (raw : Instr) (st : List Value) (r : Option Value) : Prop :=
  (raw = .ireturn ∧ (mrow k).2.2.2.1 = some .int ∧ ∃ x, st = [.int x] ∧ r = some (.int x)) ∨ (raw = .ireturn ∧ (mrow k).2.2.2.1 = some .boolean ∧ ∃ x, st = [.int x] ∧ (x = 0 ∨ x = 1) ∧ r = some (.int x)) ∨ (raw = .lreturn ∧ (mrow k).2.2.2.1 = some .long ∧ ∃ x, st = [.long x] ∧ r = some (.long x)) ∨
    (raw = .areturn ∧ (∃ rt, (mrow k).2.2.2.1 = some rt ∧ ((∃ n, rt = .object n) ∨ ∃ t, rt = .array t)) ∧ ∃ v, st = [v] ∧ (v = .null ∨ ∃ a, v = .ref a) ∧ r = some v) ∨ (raw = .return_ ∧ (mrow k).2.2.2.1 = none ∧ st = [] ∧ r = none)
noncomputable def RetK (E : aEnv) (G : aG) (k : Nat) (p : Program) (l : Launch) (e : Env) (R : Room) (s : State) (m : MethodId) (args : Array Value) (below : List Frame) (meth : Method) (cd : Code) (Q : State → Prop) (r : Option Value) (ahF : aHp) : Prop :=
  ∀ (pc : Nat) (Ls : Array Slot) (st : List Value) (H : Heap) (locs : List Loc) (raw : Instr), decode (mrow k).2.1 pc = .ok (raw, 1) → retF k raw st r → HR E G ahF H → va_S (fun q => E.1 ≤ q) s.heap H locs →
    W p l e R s m args below meth cd H locs (E.1 + ahF.length - s.heap.size) (wid * (E.1 + ahF.length - s.heap.size)) Q (F0 m pc Ls st)
/-- what a run means for the machine -/
noncomputable def Snd (E : aEnv) (G : aG) (l : Launch) (c k pc : Nat) (ls : aLs) (st : List Value) (ah : aHp) (r : Option Value) (ahF : aHp) : Prop :=
  ah.length ≤ ahF.length ∧ ∀ (p : Program) (e : Env) (R : Room) (s : State) (m : MethodId) (args : Array Value) (below : List Frame) (meth : Method) (cd : Code) (Q : State → Prop),
    Cx E G c k p R s m args meth cd → s.heap.size ≤ E.1 + ah.length → RM E R s ahF → RetK E G k p l e R s m args below meth cd Q r ahF → KK E G k p l e R s m args below meth cd Q (pc, ls, st, ah)
theorem metA_of {E : aEnv} {G : aG} {l : Launch} {c n : Nat} {As : List Value} {ah : aHp} {r : Option Value} {ahF : aHp} (hn : n < 298) (hex : (exL As).length ≤ (mrow n).2.2.1) (h : Snd E G l c n 0 (entL (mrow n).2.2.1 As) [] ah r ahF) : MetA E G l c n As ah r ahF := by
  obtain ⟨w1, w2, hpl, -, hmx, -⟩ := mo_at hn
  obtain ⟨hle, h⟩ := h
  refine Met_ofWF (cc := (mrow n).2.1) (maxL := (mrow n).2.2.1) (ret := (mrow n).2.2.2.1) hpl rfl ?_
  intro p e s m args below meth cd s₁ B hml hv
  obtain ⟨rfl, hH, hsz, hG⟩ := hv
  have hts := atoms_spec (ws := Jvm.Cond.code (mrow n).1 (mrow n).2.1 (mrow n).2.2.1 (mrow n).2.2.2.1 :: lw_g) B.pre
  have hown : s.vm.findClass (mrow n).1.cls = some m.cls := findClass_of_methodNamed B.named
  have hin : meth.name = (mrow n).1.name := (name_of_methodNamed B.named B.method).1
  have hlocks := B.notSynchronized
  have hx := B.exec
  have hb := B.bytes
  have hr := B.returns
  have C : Cx E G c n p (rmc c (ahF.length - ah.length)) s m As.toArray meth cd := ⟨hx, hb, hml, hr, hlocks, hin, hown, fun w hw => hts w (List.mem_cons_of_mem _ hw), Nat.le_refl _, Nat.le_refl _, hG⟩
  have e0 : E.1 + ah.length - s.heap.size = 0 := by omega
  have e1 : E.1 + ahF.length - s.heap.size = ahF.length - ah.length := by omega
  have k1 := h p e (rmc c (ahF.length - ah.length)) s m As.toArray below meth cd (MQ below (aQc E G r ahF) As.toArray s (ahF.length - ah.length) (wid * (ahF.length - ah.length)) (fun q => E.1 ≤ q)) C (by omega) (by
      unfold RM
      rw [e1]
      exact ⟨Nat.le_refl _, Nat.le_refl _⟩) (by
      intro pc Ls st H locs raw hd hF hHR hS
      rw [e1]
      have hq : ∀ t : State, t.heap = H → s.WarmedH t.vm → aQc E G r ahF As.toArray s (.returned r) t := fun t ht _ => ⟨rfl, by rw [ht]; exact hHR, hS.F ht⟩
      rcases hF with ⟨rfl, h1, x, rfl, rfl⟩ | ⟨rfl, h1, x, rfl, hx1, rfl⟩ | ⟨rfl, h1, x, rfl, rfl⟩ | ⟨rfl, ⟨rt, h1, h2⟩, v, rfl, hv, rfl⟩ | ⟨rfl, h1, rfl, rfl⟩
      · exact W.iret hx hb (by rw [hr]; exact h1) hq hS.2.2 hd hlocks
      · exact W.zret hx hb (by rw [hr]; exact h1) (by rcases hx1 with rfl | rfl <;> rfl) hq hS.2.2 hd hlocks
      · exact W.lret hx hb (by rw [hr]; exact h1) hq hS.2.2 hd hlocks
      · exact W.aret hx hb (by rw [hr]; exact h1) h2 hv hq hS.2.2 hd hlocks
      · exact W.vret hx hb (by rw [hr]; exact h1) hq hS.2.2 hd hlocks)
  have k2 := k1 s.heap [] ((lg_sl As ++ List.replicate ((mrow n).2.2.1 - (lg_sl As).length) Slot.unset).toArray) hH va_S.rf (LH.ent As hex)
  dsimp only at k2
  rw [e0, Nat.mul_zero] at k2
  rw [lg_entry_eq]
  exact k2
theorem snd_all {E : aEnv} {G : aG} (hX : SXr E G) (l : Launch) : ∀ (f c k pc : Nat) (ls : aLs) (st : List Value) (ah : aHp) (r : Option Value) (ahF : aHp), rn E f c k pc ls st ah = some (r, ahF) → Snd E G l c k pc ls st ah r ahF
  | 0, _, _, _, _, _, _, _, _, h => by simp [rn] at h
  | f + 1, c, k, pc, ls, st, ah, r, ahF, h => by
    have IH := snd_all hX l f
    unfold rn at h
    split at h
    · cases h
    · next J hJ =>
      obtain ⟨I, npc⟩ := J
      dsimp only at h
      obtain ⟨raw, n, hd, hln, hr, rfl⟩ := ins_raw hJ
      split at h
      · next r1 hr1 =>
        cases h
        refine ⟨Nat.le_refl _, fun p e R s m args below meth cd Q C hn hR hK H locs Ls hH hS hL => ?_⟩
        have h3 := rsv_ret hr hr1
        have h4 : n = 1 := by
          rcases h3 with ⟨rfl, _⟩ | ⟨rfl, _⟩ | ⟨rfl, _⟩ | ⟨rfl, _⟩ | ⟨rfl, _⟩ <;> simpa [lnI] using hln
        subst h4
        exact hK pc Ls st H locs raw hd h3 hH hS
      · split at h
        · next q hq =>
          obtain ⟨n1, h1⟩ := q
          split at h
          · cases h
          · next c' =>
            split at h
            · next hcok =>
              split at h
              · cases h
              · next z hz =>
                obtain ⟨x, q2, hl, hq2, hm, hraw⟩ := rsv_call hr hq
                have hn3 : n = 3 := by rcases hraw with ⟨rfl, _⟩ | ⟨rfl, _⟩ | ⟨rfl, _⟩ <;> simpa [lnI] using hln
                subst hn3
                obtain ⟨r1, ah1⟩ := z
                have i1 := IH _ _ _ _ _ _ _ _ hz
                have i2 := IH _ _ _ _ _ _ _ _ h
                dsimp only at i1 i2
                refine ⟨Nat.le_trans i1.1 i2.1, fun p e R s m args below meth cd Q C hn hR hK => ?_⟩
                have hlt : n1 < 298 := by rw [← hq2]; exact (ml_at hl).1
                exact w_call C hn (hR.mono i2.1) i1.1 hl hq2 hm hraw hd hcok (metA_of hlt (cok_is hcok).2.2.2 i1) (i2.2 p e R s m args below meth cd Q C (Nat.le_trans hn (Nat.add_le_add_left i1.1 _)) hR hK)
            · cases h
        · split at h
          · next q hq =>
            split at h
            · cases h
            · next hcw =>
              have i2 := IH _ _ _ _ _ _ _ _ h
              have hle := xt_len hq
              refine ⟨by rw [← hle]; exact i2.1, fun p e R s m args below meth cd Q C hn hR hK => ?_⟩
              have k2 := i2.2 p e R s m args below meth cd Q C (by rw [hle]; exact hn) hR hK
              have hw : wds q.1 ≤ 8 := by omega
              have hcd : dpt I ≤ c := by omega
              have hI : ∃ j, I = .ldc_w j := by
                unfold xtA at hq
                split at hq <;> first | exact ⟨_, rfl⟩ | cases hq
              obtain ⟨j, rfl⟩ := hI
              obtain ⟨x, hl, hj⟩ := rsv_xt hr rfl
              have hn3 : n = 3 := by rcases hj with ⟨rfl, _⟩ | ⟨rfl, _⟩ | ⟨rfl, _⟩ <;> simpa [lnI] using hln
              subst hn3
              rcases hj with ⟨rfl, rfl⟩ | ⟨rfl, hj⟩ | ⟨rfl, rfl⟩
              · exact x_copy C hcd hl hd hq hw k2
              · exact hX c k p l e R s m args below meth cd Q pc x j ls st ah q C (by rcases hj with rfl | rfl <;> exact hcd) hj hl hd hq hw k2
              · exact x_obj C hcd hl hd hq hw k2
          · split at h
            · cases h
            · next z hz =>
              have i2 := IH _ _ _ _ _ _ _ _ h
              have hle := st1_len hz
              refine ⟨Nat.le_trans hle i2.1, fun p e R s m args below meth cd Q C hn hR hK => ?_⟩
              have k2 := i2.2 p e R s m args below meth cd Q C (Nat.le_trans hn (Nat.add_le_add_left hle _)) hR hK
              exact stp C hn (hR.mono i2.1) hJ hz k2

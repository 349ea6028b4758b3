/-! Texts: their world, and String's own methods -/
noncomputable def okc (x : Int32) : Prop := ((x &&& 255).toUInt32 % 65536).toInt32 = x ∧ narrow .char (.int x) = .int x
noncomputable def txO (cs : List Int32) : Prop := cs.length < 1000 ∧ Int32.ofNat cs.length >>> ((0 : Int32) &&& 31) = Int32.ofNat cs.length ∧ ∀ j, j < cs.length → okc (cs.getD j 0)
noncomputable def tx1 (E : aEnv) (U : State) (a t : Nat) (cs : List Int32) : Prop := va_O "java/lang/String" a (fun q => E.1 ≤ q) U U.heap ∧ va_OF "java/lang/String" "coder" "B" (.int 0) a (fun q => E.1 ≤ q) U U.heap ∧ va_OF "java/lang/String" "value" "[B" (.ref t) a (fun q => E.1 ≤ q) U U.heap ∧ va_T .byte t cs.length (fun j => .int (cs.getD j 0)) (fun q => E.1 ≤ q) U U.heap
noncomputable def TX (E : aEnv) (V : Nat → Nat) (U : State) : Prop := va_Z "java/lang/String" "COMPACT_STRINGS" "Z" (.int 1) (fun q => E.1 ≤ q) U U.heap ∧ va_Zq "jdk/internal/util/Preconditions" "SIOOBE_FORMATTER" "Ljava/util/function/BiFunction;" (fun q => E.1 ≤ q) U U.heap ∧ ∀ a cs, E.2.2.2 a = some cs → txO cs ∧ tx1 E U a (V a) cs
theorem TX.go {E : aEnv} {V : Nat → Nat} {s U : State} (h : TX E V s) (hW : s.WarmedH U.vm) (hq : ∀ q, q < E.1 → U.heap[q]? = s.heap[q]?) : TX E V U := by
  have hk : ∀ a : Nat, a < s.heap.size → ¬ (fun q => E.1 ≤ q) a → U.heap[a]? = s.heap[a]? := fun a _ h => hq a (Nat.not_le.mp h)
  obtain ⟨h1, h2, h3⟩ := h
  refine ⟨(h1.kept hk).moved hW.alike, (h2.kept hk).moved hW.alike, fun a cs he => ?_⟩
  obtain ⟨o, a1, a2, a3, a4⟩ := h3 a cs he
  exact ⟨o, (a1.kept hk).moved hW.alike, (a2.kept hk).moved hW.alike, (a3.kept hk).moved hW.alike, (a4.kept hk).moved hW.alike⟩
theorem TX.calling {E : aEnv} {V : Nat → Nat} {U : State} (h : TX E V U) (g : JFrame) (mk : MethodId) (a : Array Value) : TX E V (U.calling g mk a) := h.go (State.WarmedH.refl U) (fun _ _ => rfl)
noncomputable def bPc (E : aEnv) (G : aG) (V : Nat → Nat) (As : List Value) (ah : aHp) : Array Value → State → Prop := va_Pc As (fun U => HR E G ah U.heap ∧ U.heap.size = E.1 + ah.length ∧ GS E G U ∧ TX E V U)
noncomputable def yLen : MethodName := ⟨"java/lang/String", "length", "()I"⟩
noncomputable def yCha : MethodName := ⟨"java/lang/String", "charAt", "(I)C"⟩
noncomputable def yCod : MethodName := ⟨"java/lang/String", "coder", "()B"⟩
noncomputable def yLat : MethodName := ⟨"java/lang/String", "isLatin1", "()Z"⟩
noncomputable def yChk : MethodName := ⟨"java/lang/String", "checkIndex", "(II)V"⟩
noncomputable def yLca : MethodName := ⟨"java/lang/StringLatin1", "charAt", "([BI)C"⟩
noncomputable def yPre : MethodName := ⟨"jdk/internal/util/Preconditions", "checkIndex", "(IILjava/util/function/BiFunction;)I"⟩
theorem tw_in {j i : Nat} {w : Jvm.Cond} (h : (tbj j)[i]? = some w) (hg : goodWord w = true) : w ∈ lw_g := List.mem_filter.mpr ⟨tbj_in (List.mem_of_getElem? h), hg⟩
theorem tw_0 : Jvm.Cond.initialized "java/lang/String" ∈ lw_g := tw_in (j := 1) (i := 17) rfl rfl
theorem tw_1 : Jvm.Cond.initialized "java/lang/StringLatin1" ∈ lw_g := tw_in (j := 1) (i := 18) rfl rfl
theorem tw_2 : Jvm.Cond.initialized "jdk/internal/util/Preconditions" ∈ lw_g := tw_in (j := 1) (i := 19) rfl rfl
theorem tw_len : Jvm.Cond.instanceMethod yLen ∈ lw_g ∧ Jvm.Cond.selects "java/lang/String" yLen yLen ∈ lw_g ∧ Jvm.Cond.code yLen prog_16_method_54_code 1 (some .int) ∈ lw_g := ⟨tw_in (j := 4) (i := 116) rfl rfl, tw_in (j := 4) (i := 117) rfl rfl, tw_in (j := 4) (i := 118) rfl rfl⟩
theorem tw_cod : Jvm.Cond.methodLink "java/lang/String" 335 yCod ∈ lw_g ∧ Jvm.Cond.instanceMethod yCod ∈ lw_g ∧ Jvm.Cond.selects "java/lang/String" yCod yCod ∈ lw_g ∧ Jvm.Cond.code yCod prog_16_method_152_code 1 (some .byte) ∈ lw_g := ⟨tw_in (j := 4) (i := 119) rfl rfl, tw_in (j := 4) (i := 120) rfl rfl, tw_in (j := 4) (i := 121) rfl rfl, tw_in (j := 4) (i := 122) rfl rfl⟩
theorem tw_cs : Jvm.Cond.fieldLink "java/lang/String" 38 "java/lang/String" "COMPACT_STRINGS" "Z" ∈ lw_g := tw_in (j := 4) (i := 123) rfl rfl
theorem tw_cha : Jvm.Cond.instanceMethod yCha ∈ lw_g ∧ Jvm.Cond.selects "java/lang/String" yCha yCha ∈ lw_g ∧ Jvm.Cond.code yCha prog_16_method_56_code 2 (some .char) ∈ lw_g := ⟨tw_in (j := 4) (i := 126) rfl rfl, tw_in (j := 4) (i := 127) rfl rfl, tw_in (j := 4) (i := 128) rfl rfl⟩
theorem tw_lat : Jvm.Cond.methodLink "java/lang/String" 492 yLat ∈ lw_g ∧ Jvm.Cond.instanceMethod yLat ∈ lw_g ∧ Jvm.Cond.selects "java/lang/String" yLat yLat ∈ lw_g ∧ Jvm.Cond.code yLat prog_16_method_154_code 1 (some .boolean) ∈ lw_g := ⟨tw_in (j := 4) (i := 129) rfl rfl, tw_in (j := 4) (i := 130) rfl rfl, tw_in (j := 4) (i := 131) rfl rfl, tw_in (j := 4) (i := 132) rfl rfl⟩
theorem tw_lca : Jvm.Cond.methodLink "java/lang/String" 495 yLca ∈ lw_g ∧ Jvm.Cond.static yLca ∈ lw_g ∧ Jvm.Cond.code yLca prog_17_method_2_code 2 (some .char) ∈ lw_g := ⟨tw_in (j := 4) (i := 133) rfl rfl, tw_in (j := 4) (i := 134) rfl rfl, tw_in (j := 4) (i := 135) rfl rfl⟩
theorem tw_chk : Jvm.Cond.methodLink "java/lang/StringLatin1" 9 yChk ∈ lw_g ∧ Jvm.Cond.static yChk ∈ lw_g ∧ Jvm.Cond.code yChk prog_16_method_155_code 2 none ∈ lw_g := ⟨tw_in (j := 4) (i := 136) rfl rfl, tw_in (j := 4) (i := 137) rfl rfl, tw_in (j := 4) (i := 138) rfl rfl⟩
theorem tw_fm : Jvm.Cond.fieldLink "java/lang/String" 1053 "jdk/internal/util/Preconditions" "SIOOBE_FORMATTER" "Ljava/util/function/BiFunction;" ∈ lw_g := tw_in (j := 4) (i := 139) rfl rfl
theorem tw_pre : Jvm.Cond.methodLink "java/lang/String" 1059 yPre ∈ lw_g ∧ Jvm.Cond.static yPre ∈ lw_g ∧ Jvm.Cond.code yPre prog_21_method_11_code 3 (some .int) ∈ lw_g := ⟨tw_in (j := 4) (i := 141) rfl rfl, tw_in (j := 4) (i := 142) rfl rfl, tw_in (j := 4) (i := 143) rfl rfl⟩
theorem tw_fv : Jvm.Cond.fieldLink "java/lang/String" 9 "java/lang/String" "value" "[B" ∈ lw_g := tw_in (j := 9) (i := 92) rfl rfl
theorem tw_fc : Jvm.Cond.fieldLink "java/lang/String" 15 "java/lang/String" "coder" "B" ∈ lw_g := tw_in (j := 9) (i := 93) rfl rfl
section STRS
variable {E : aEnv} {G : aG} {V : Nat → Nat} {l : Launch} {ah : aHp}
theorem bPc_blind (As : List Value) : FrameBlind (bPc E G V As ah) := fun a U g mk h => ⟨h.1, h.2.1, h.2.2.1, h.2.2.2.1.calling g mk a, h.2.2.2.2.calling g mk a⟩
noncomputable def MetS (E : aEnv) (G : aG) (V : Nat → Nat) (l : Launch) (c : Nat) (y : MethodName) (cc : ByteArray) (mx : Nat) (ret : Option FieldType) (As : List Value) (ah : aHp) (r : Option Value) : Prop := Met l y (.code y cc mx ret :: lw_g) (rmc c 0) (bPc E G V As ah) (aQc E G r ah) 0 0 (fun q => E.1 ≤ q)
noncomputable def CJ (E : aEnv) (G : aG) (V : Nat → Nat) (y : MethodName) (cc : ByteArray) (mx : Nat) (ret : Option FieldType) (As : List Value) (ah : aHp) (p : Program) (s : State) (m : MethodId) (meth : Method) (cd : Code) : Prop :=
  p.tables.exec = Jvm.exec ∧ cd.code = cc ∧ cd.maxLocals = mx ∧ meth.sig.returnType = ret ∧ meth.locks = false ∧ s.vm.findClass y.cls = some m.cls ∧ (∀ w ∈ lw_g, w.before As.toArray s = true) ∧ HR E G ah s.heap ∧ s.heap.size = E.1 + ah.length ∧ GS E G s ∧ TX E V s
theorem metS_of {c : Nat} {y : MethodName} {cc : ByteArray} {mx : Nat} {ret : Option FieldType} {As : List Value} {r : Option Value} (hpl : plainFor y = true) (hn : (lg_sl As).length ≤ mx)
    (h : ∀ p e s m below meth cd Ls, CJ E G V y cc mx ret As ah p s m meth cd → lv_has Ls mx (lv_args 0 As) → W p l e (rmc c 0) s m As.toArray below meth cd s.heap [] 0 0 (MQ below (aQc E G r ah) As.toArray s 0 0 (fun q => E.1 ≤ q)) (F0 m 0 Ls [])) : MetS E G V l c y cc mx ret As ah r := by
  refine Met_ofWF (cc := cc) (maxL := mx) (ret := ret) hpl rfl ?_
  intro p e s m args below meth cd s₁ B hml hv
  obtain ⟨rfl, hH, hsz, hG, hX⟩ := hv
  have hts := atoms_spec (ws := Jvm.Cond.code y cc mx ret :: lw_g) B.pre
  have hown : s.vm.findClass y.cls = some m.cls := findClass_of_methodNamed B.named
  rw [lg_entry_eq]
  exact h p e s m below meth cd _ ⟨B.exec, B.bytes, hml, B.returns, B.notSynchronized, hown, fun w hw => hts w (List.mem_cons_of_mem _ hw), hH, hsz, hG, hX⟩ (lv_entry As hn)
section CALLJ
variable {p : Program} {e : Env} {R : Room} {s : State} {m : MethodId} {args : Array Value} {below : List Frame} {meth : Method} {cd : Code} {Q : State → Prop} {H : Heap} {locs : List Loc} {cells slots pc : Nat} {Ls : Array Slot}
theorem j_pc {As : List Value} (hG : GS E G s) (hT : TX E V s) (hH : HR E G ah H) (hsz : H.size = E.1 + ah.length) (hS : va_S (fun q => E.1 ≤ q) s.heap H locs) : ∀ U : State, U.heap = H → s.WarmedH U.vm → bPc E G V As ah As.toArray U := fun U hU hW =>
  have hk : ∀ q, q < E.1 → U.heap[q]? = s.heap[q]? := fun y hy => by rw [hU]; exact hS.2.1 y (Nat.lt_of_lt_of_le hy hG.2.2.2.2.1) (Nat.not_le.mpr hy)
  ⟨rfl, by rw [hU]; exact hH, by rw [hU]; exact hsz, hG.go hW (by rw [hU, hsz]; omega) hk, hT.go hW hk⟩
theorem j_S {c nL mx index : Nat} {cc cb : ByteArray} {own : String} {y : MethodName} {ret : Option FieldType} {As rest : List Value} {r : Option Value} (S : CallFix p m cd cc nL s args lw_g own) (hG : GS E G s) (hT : TX E V s) (hRf : c + 1 ≤ R.frames) (hRl : 100 * (c + 1) ≤ R.locals) (hf : cells ≤ R.cells ∧ slots ≤ R.slots)
    (hM : MetS E G V l c y cb mx ret As ah r) (hmx : mx ≤ 60) (w1 : Jvm.Cond.code y cb mx ret ∈ lw_g) (w2 : Jvm.Cond.initialized y.cls ∈ lw_g) (w3 : Jvm.Cond.methodLink own index y ∈ lw_g) (w4 : Jvm.Cond.static y ∈ lw_g)
    (hy : y.cls ≠ "java/lang/invoke/MethodHandle" ∧ y.cls ≠ "java/lang/invoke/VarHandle" ∧ (parseMethodDescriptor y.desc).map (fun d => d.parameters.length) = some As.length) (hH : HR E G ah H) (hsz : H.size = E.1 + ah.length) (hS : va_S (fun q => E.1 ≤ q) s.heap H locs) (hLs : Ls.size = nL) (hwd : wds rest ≤ 8) (hd : decode cc pc = .ok (.invokestatic index, 3))
    (kk : ∀ (H1 : Heap) (locs1 : List Loc), HR E G ah H1 → va_S (fun q => E.1 ≤ q) s.heap H1 locs1 → W p l e R s m args below meth cd H1 locs1 cells slots Q (F0 m (pc + 3) Ls (r.toList ++ rest))) : W p l e R s m args below meth cd H locs cells slots Q (F0 m pc Ls (As.reverse ++ rest)) := by
  have hwd' := S.2.2.2.2
  have hws : ∀ w ∈ (Jvm.Cond.code y cb mx ret :: lw_g), w ∈ lw_g := fun w hw => by
    rcases List.mem_cons.mp hw with rfl | h
    · exact w1
    · exact h
  have hRm : (rmc c 0).frames + 1 ≤ R.frames ∧ 8 + (mx + 11) + (rmc c 0).locals ≤ R.locals := by
    simp only [rmc]
    omega
  exact aw_go (va_runS S hM ⟨callB_of _ hwd' (goodIn_all hws) rfl rfl rfl (hwd' _ w2) (hwd' _ w3) hy hRm, hwd' _ w4⟩ ⟨bPc_blind _, j_pc hG hT hH hsz hS⟩ rfl rfl hLs rfl (lv_room hwd) hd hf) hS kk
theorem j_V {c nL mx index : Nat} {cc cb : ByteArray} {own : String} {y : MethodName} {ret : Option FieldType} {a : Nat} {As rest : List Value} {r : Option Value} (S : CallFix p m cd cc nL s args lw_g own) (hG : GS E G s) (hT : TX E V s) (hRf : c + 1 ≤ R.frames) (hRl : 100 * (c + 1) ≤ R.locals) (hf : cells ≤ R.cells ∧ slots ≤ R.slots)
    (hM : MetS E G V l c y cb mx ret (.ref a :: As) ah r) (hmx : mx ≤ 60) (w1 : Jvm.Cond.code y cb mx ret ∈ lw_g) (w2 : Jvm.Cond.initialized y.cls ∈ lw_g) (w3 : Jvm.Cond.methodLink own index y ∈ lw_g) (w4 : Jvm.Cond.instanceMethod y ∈ lw_g) (w5 : Jvm.Cond.selects "java/lang/String" y y ∈ lw_g) {cs : List Int32} (ha : E.2.2.2 a = some cs)
    (hy : y.cls ≠ "java/lang/invoke/MethodHandle" ∧ y.cls ≠ "java/lang/invoke/VarHandle" ∧ (parseMethodDescriptor y.desc).map (fun d => d.parameters.length) = some As.length) (hH : HR E G ah H) (hsz : H.size = E.1 + ah.length) (hS : va_S (fun q => E.1 ≤ q) s.heap H locs) (hLs : Ls.size = nL) (hwd : wds rest ≤ 8) (hd : decode cc pc = .ok (.invokevirtual index, 3))
    (kk : ∀ (H1 : Heap) (locs1 : List Loc), HR E G ah H1 → va_S (fun q => E.1 ≤ q) s.heap H1 locs1 → W p l e R s m args below meth cd H1 locs1 cells slots Q (F0 m (pc + 3) Ls (r.toList ++ rest))) : W p l e R s m args below meth cd H locs cells slots Q (F0 m pc Ls (As.reverse ++ .ref a :: rest)) := by
  have hwd' := S.2.2.2.2
  have hws : ∀ w ∈ (Jvm.Cond.code y cb mx ret :: lw_g), w ∈ lw_g := fun w hw => by
    rcases List.mem_cons.mp hw with rfl | h
    · exact w1
    · exact h
  have hRm : (rmc c 0).frames + 1 ≤ R.frames ∧ 8 + (mx + 11) + (rmc c 0).locals ≤ R.locals := by
    simp only [rmc]
    omega
  obtain ⟨cell, g1, g2, g3, -⟩ := (hT.2.2 a cs ha).2.1.kept hS.2.1
  exact aw_go (va_runV S hM ⟨callB_of _ hwd' (goodIn_all hws) rfl rfl rfl (hwd' _ w2) (hwd' _ w3) hy hRm, hwd' _ w4, hwd' _ w5⟩ ⟨bPc_blind _, ⟨cell, g1, g2, g3⟩, j_pc hG hT hH hsz hS⟩ rfl rfl hLs rfl (lv_room hwd) hd hf) hS kk
end CALLJ
theorem CJ.sz {y : MethodName} {cc : ByteArray} {mx : Nat} {ret : Option FieldType} {As : List Value} {p : Program} {s : State} {m : MethodId} {meth : Method} {cd : Code} (C : CJ E G V y cc mx ret As ah p s m meth cd) {H : Heap} {locs : List Loc} (hS : va_S (fun q => E.1 ≤ q) s.heap H locs) (hz : H.size ≤ s.heap.size + 0) : H.size = E.1 + ah.length := by
  have h1 := C.2.2.2.2.2.2.2.2.1
  have h2 : s.heap.size ≤ H.size := hS.1
  omega
theorem aq_end {As : Array Value} {s : State} {H : Heap} {locs : List Loc} {r : Option Value} (hH : HR E G ah H) (hS : va_S (fun q => E.1 ≤ q) s.heap H locs) : ∀ t : State, t.heap = H → s.WarmedH t.vm → aQc E G r ah As s (.returned r) t := fun t ht _ => ⟨rfl, by rw [ht]; exact hH, hS.F ht⟩
/-- Preconditions.checkIndex -/
theorem js_pre {c : Nat} {i n : Int32} {v : Value} (hv : v = .null ∨ ∃ t, v = .ref t) (h0 : ¬ i < 0) (h1 : i < n) : MetS E G V l c yPre prog_21_method_11_code 3 (some .int) [.int i, .int n, v] ah (some (.int i)) := by
  refine metS_of rfl (by rcases hv with rfl | ⟨t, rfl⟩ <;> exact Nat.le_refl 3) ?_
  intro p e s m below meth cd Ls C hl
  obtain ⟨hx, hb, hml, hr, hlk, ho, hwd, hH, hsz, hG, hT⟩ := C
  have hS : va_S (fun q => E.1 ≤ q) s.heap s.heap [] := va_S.rf
  have l0 : Ls[0]? = some (.val (.int i)) := lv_at hl 0 rfl
  have l1 : Ls[1]? = some (.val (.int n)) := lv_at hl 1 rfl
  refine lv_iload_n hx hb (k := 0) (show decode prog_21_method_11_code 0 = .ok (.iload_n 0, 1) by decide +kernel) rfl l0 ?_
  refine lv_if_lt (tgt := 9) hx hb (show decode prog_21_method_11_code 1 = .ok (.ifCond .lt 8, 3) by decide +kernel) (by decide) (fun z => absurd z h0) (fun _ => ?_)
  refine lv_iload_n hx hb (k := 0) (show decode prog_21_method_11_code 4 = .ok (.iload_n 0, 1) by decide +kernel) rfl l0 ?_
  refine lv_iload_n hx hb (k := 1) (show decode prog_21_method_11_code 5 = .ok (.iload_n 1, 1) by decide +kernel) rfl l1 ?_
  refine lv_icmp_lt (tgt := 16) hx hb (show decode prog_21_method_11_code 6 = .ok (.if_icmp .lt 10, 3) by decide +kernel) (by decide) (fun _ => ?_) (fun z => absurd h1 z)
  refine lv_iload_n hx hb (k := 0) (show decode prog_21_method_11_code 16 = .ok (.iload_n 0, 1) by decide +kernel) rfl l0 ?_
  exact W.iret hx hb hr (aq_end hH hS) hS.2.2 (show decode prog_21_method_11_code 17 = .ok (.ireturn, 1) by decide +kernel) hlk
/-- String.checkIndex -/
theorem js_chk {c : Nat} {i n : Int32} (h0 : ¬ i < 0) (h1 : i < n) : MetS E G V l (c + 1) yChk prog_16_method_155_code 2 none [.int i, .int n] ah none := by
  refine metS_of rfl (Nat.le_refl 2) ?_
  intro p e s m below meth cd Ls C hl
  have C' := C
  obtain ⟨hx, hb, hml, hr, hlk, ho, hwd, hH, hsz, hG, hT⟩ := C
  have hS : va_S (fun q => E.1 ≤ q) s.heap s.heap [] := va_S.rf
  have l0 : Ls[0]? = some (.val (.int i)) := lv_at hl 0 rfl
  have l1 : Ls[1]? = some (.val (.int n)) := lv_at hl 1 rfl
  have hZ : ∃ v, (v = .null ∨ ∃ t, v = .ref t) ∧ va_Z "jdk/internal/util/Preconditions" "SIOOBE_FORMATTER" "Ljava/util/function/BiFunction;" v (fun q => E.1 ≤ q) s s.heap := by
    rcases hT.2.1 with h | ⟨t, h⟩
    · exact ⟨_, Or.inl rfl, h⟩
    · exact ⟨_, Or.inr ⟨t, rfl⟩, h⟩
  obtain ⟨v, hv, hZ⟩ := hZ
  refine lv_iload_n hx hb (k := 0) (show decode prog_16_method_155_code 0 = .ok (.iload_n 0, 1) by decide +kernel) rfl l0 ?_
  refine lv_iload_n hx hb (k := 1) (show decode prog_16_method_155_code 1 = .ok (.iload_n 1, 1) by decide +kernel) rfl l1 ?_
  refine va_gets hx hb hZ hS ho (hwd _ tw_fm) (fun x h => h) (show decode prog_16_method_155_code 2 = .ok (.getstatic 1053, 3) by decide +kernel) ?_
  refine j_S (As := [.int i, .int n, v]) (rest := []) (nL := 2) (own := "java/lang/String") ⟨hx, hb, hml, ho, hwd⟩ hG hT (Nat.le_refl _) (Nat.le_refl _) ⟨Nat.le_refl _, Nat.le_refl _⟩ (js_pre (c := c) hv h0 h1) (by decide) tw_pre.2.2 tw_2 tw_pre.1 tw_pre.2.1 ⟨by decide, by decide, rfl⟩ hH hsz hS hl.1 (by decide) (show decode prog_16_method_155_code 5 = .ok (.invokestatic 1059, 3) by decide +kernel) (fun H1 locs1 hH1 hS1 => ?_)
  refine lv_pop hx hb (show decode prog_16_method_155_code 8 = .ok (.pop, 1) by decide +kernel) rfl ?_
  exact W.vret hx hb hr (aq_end hH1 hS1) hS1.2.2 (show decode prog_16_method_155_code 9 = .ok (.return_, 1) by decide +kernel) hlk
/-- StringLatin1.charAt -/
theorem js_lca {c a k : Nat} {cs : List Int32} (ha : E.2.2.2 a = some cs) (hk : k < cs.length) : MetS E G V l (c + 2) yLca prog_17_method_2_code 2 (some .char) [.ref (V a), .int (nI k)] ah (some (.int (cs.getD k 0))) := by
  refine metS_of rfl (Nat.le_refl 2) ?_
  intro p e s m below meth cd Ls C hl
  have C' := C
  obtain ⟨hx, hb, hml, hr, hlk, ho, hwd, hH, hsz, hG, hT⟩ := C
  obtain ⟨⟨o1, o2, o3⟩, x1, x2, x3, x4⟩ := hT.2.2 a cs ha
  have hS : va_S (fun q => E.1 ≤ q) s.heap s.heap [] := va_S.rf
  have l0 : Ls[0]? = some (.val (.ref (V a))) := lv_at hl 0 rfl
  have l1 : Ls[1]? = some (.val (.int (nI k))) := lv_at hl 1 rfl
  have h0 : ¬ nI k < 0 := nI_pos (by omega)
  have hc := nI_clamp (n := k) (by omega)
  obtain ⟨q1, q2⟩ := o3 k hk
  refine lv_iload_n hx hb (k := 1) (show decode prog_17_method_2_code 0 = .ok (.iload_n 1, 1) by decide +kernel) rfl l1 ?_
  refine lv_aload_n hx hb (k := 0) (show decode prog_17_method_2_code 1 = .ok (.aload_n 0, 1) by decide +kernel) rfl l0 ?_
  refine va_tlen (v := nI cs.length) hx hb x4 hS rfl (show decode prog_17_method_2_code 2 = .ok (.arraylength, 1) by decide +kernel) ?_
  refine j_S (As := [.int (nI k), .int (nI cs.length)]) (rest := []) (nL := 2) (own := "java/lang/StringLatin1") ⟨hx, hb, hml, ho, hwd⟩ hG hT (Nat.le_refl _) (Nat.le_refl _) ⟨Nat.le_refl _, Nat.le_refl _⟩ (js_chk (c := c) h0 (nI_lt hk (by omega))) (by decide) tw_chk.2.2 tw_0 tw_chk.1 tw_chk.2.1 ⟨by decide, by decide, rfl⟩ hH hsz hS hl.1 (by decide) (show decode prog_17_method_2_code 3 = .ok (.invokestatic 9, 3) by decide +kernel) (fun H1 locs1 hH1 hS1 => ?_)
  refine lv_aload_n hx hb (k := 0) (show decode prog_17_method_2_code 6 = .ok (.aload_n 0, 1) by decide +kernel) rfl l0 ?_
  refine lv_iload_n hx hb (k := 1) (show decode prog_17_method_2_code 7 = .ok (.iload_n 1, 1) by decide +kernel) rfl l1 ?_
  refine va_tb (v := .int (cs.getD k 0)) hx hb x4 hS1 (vp_in_nI hk (by omega)) (by rw [hc]) (show decode prog_17_method_2_code 8 = .ok (.baload, 1) by decide +kernel) ?_
  refine lv_sipush (v := 255) hx hb (show decode prog_17_method_2_code 9 = .ok (.sipush 255, 3) by decide +kernel) (by decide) ?_
  refine lv_iand hx hb (show decode prog_17_method_2_code 12 = .ok (.iand, 1) by decide +kernel) ?_
  refine lv_i2c hx hb (show decode prog_17_method_2_code 13 = .ok (.i2c, 1) by decide +kernel) q1 ?_
  exact W.zret hx hb hr q2 (aq_end hH1 hS1) hS1.2.2 (show decode prog_17_method_2_code 14 = .ok (.ireturn, 1) by decide +kernel) hlk
/-- String.coder, String.isLatin1 -/
theorem js_cod {c a : Nat} {cs : List Int32} (ha : E.2.2.2 a = some cs) : MetS E G V l c yCod prog_16_method_152_code 1 (some .byte) [.ref a] ah (some (.int 0)) := by
  refine metS_of rfl (Nat.le_refl 1) ?_
  intro p e s m below meth cd Ls C hl
  obtain ⟨hx, hb, hml, hr, hlk, ho, hwd, hH, hsz, hG, hT⟩ := C
  obtain ⟨⟨o1, o2, o3⟩, x1, x2, x3, x4⟩ := hT.2.2 a cs ha
  have hS : va_S (fun q => E.1 ≤ q) s.heap s.heap [] := va_S.rf
  have l0 : Ls[0]? = some (.val (.ref a)) := lv_at hl 0 rfl
  refine va_gets hx hb hT.1 hS ho (hwd _ tw_cs) (fun x h => h) (show decode prog_16_method_152_code 0 = .ok (.getstatic 38, 3) by decide +kernel) ?_
  refine lv_if_eq (tgt := 13) hx hb (show decode prog_16_method_152_code 3 = .ok (.ifCond .eq 10, 3) by decide +kernel) (by decide) (fun z => absurd z (by decide)) (fun _ => ?_)
  refine lv_aload_n hx hb (k := 0) (show decode prog_16_method_152_code 6 = .ok (.aload_n 0, 1) by decide +kernel) rfl l0 ?_
  refine vk_getf hx hb x2 hS ho (hwd _ tw_fc) (fun x h => h) (show decode prog_16_method_152_code 7 = .ok (.getfield 15, 3) by decide +kernel) ?_
  refine lv_goto (tgt := 14) hx hb (show decode prog_16_method_152_code 10 = .ok (.goto 4, 3) by decide +kernel) (by decide) ?_
  exact W.zret hx hb hr rfl (aq_end hH hS) hS.2.2 (show decode prog_16_method_152_code 14 = .ok (.ireturn, 1) by decide +kernel) hlk
theorem js_lat {c a : Nat} {cs : List Int32} (ha : E.2.2.2 a = some cs) : MetS E G V l c yLat prog_16_method_154_code 1 (some .boolean) [.ref a] ah (some (.int 1)) := by
  refine metS_of rfl (Nat.le_refl 1) ?_
  intro p e s m below meth cd Ls C hl
  obtain ⟨hx, hb, hml, hr, hlk, ho, hwd, hH, hsz, hG, hT⟩ := C
  obtain ⟨⟨o1, o2, o3⟩, x1, x2, x3, x4⟩ := hT.2.2 a cs ha
  have hS : va_S (fun q => E.1 ≤ q) s.heap s.heap [] := va_S.rf
  have l0 : Ls[0]? = some (.val (.ref a)) := lv_at hl 0 rfl
  refine va_gets hx hb hT.1 hS ho (hwd _ tw_cs) (fun x h => h) (show decode prog_16_method_154_code 0 = .ok (.getstatic 38, 3) by decide +kernel) ?_
  refine lv_if_eq (tgt := 17) hx hb (show decode prog_16_method_154_code 3 = .ok (.ifCond .eq 14, 3) by decide +kernel) (by decide) (fun z => absurd z (by decide)) (fun _ => ?_)
  refine lv_aload_n hx hb (k := 0) (show decode prog_16_method_154_code 6 = .ok (.aload_n 0, 1) by decide +kernel) rfl l0 ?_
  refine vk_getf hx hb x2 hS ho (hwd _ tw_fc) (fun x h => h) (show decode prog_16_method_154_code 7 = .ok (.getfield 15, 3) by decide +kernel) ?_
  refine lv_if_ne (tgt := 17) hx hb (show decode prog_16_method_154_code 10 = .ok (.ifCond .ne 7, 3) by decide +kernel) (by decide) (fun z => absurd rfl z) (fun _ => ?_)
  refine lv_iconst (v := 1) hx hb (show decode prog_16_method_154_code 13 = .ok (.iconst 1, 1) by decide +kernel) (by decide) ?_
  refine lv_goto (tgt := 18) hx hb (show decode prog_16_method_154_code 14 = .ok (.goto 4, 3) by decide +kernel) (by decide) ?_
  exact W.zret hx hb hr rfl (aq_end hH hS) hS.2.2 (show decode prog_16_method_154_code 18 = .ok (.ireturn, 1) by decide +kernel) hlk
/-- String.length -/
theorem js_len {c a : Nat} {cs : List Int32} (ha : E.2.2.2 a = some cs) : MetS E G V l (c + 1) yLen prog_16_method_54_code 1 (some .int) [.ref a] ah (some (.int (Int32.ofNat cs.length))) := by
  refine metS_of rfl (Nat.le_refl 1) ?_
  intro p e s m below meth cd Ls C hl
  obtain ⟨hx, hb, hml, hr, hlk, ho, hwd, hH, hsz, hG, hT⟩ := C
  obtain ⟨⟨o1, o2, o3⟩, x1, x2, x3, x4⟩ := hT.2.2 a cs ha
  have hS : va_S (fun q => E.1 ≤ q) s.heap s.heap [] := va_S.rf
  have l0 : Ls[0]? = some (.val (.ref a)) := lv_at hl 0 rfl
  refine lv_aload_n hx hb (k := 0) (show decode prog_16_method_54_code 0 = .ok (.aload_n 0, 1) by decide +kernel) rfl l0 ?_
  refine vk_getf hx hb x3 hS ho (hwd _ tw_fv) (fun x h => h) (show decode prog_16_method_54_code 1 = .ok (.getfield 9, 3) by decide +kernel) ?_
  refine va_tlen (v := Int32.ofNat cs.length) hx hb x4 hS rfl (show decode prog_16_method_54_code 4 = .ok (.arraylength, 1) by decide +kernel) ?_
  refine lv_aload_n hx hb (k := 0) (show decode prog_16_method_54_code 5 = .ok (.aload_n 0, 1) by decide +kernel) rfl l0 ?_
  refine j_V (As := []) (rest := [.int (Int32.ofNat cs.length)]) (nL := 1) (own := "java/lang/String") ⟨hx, hb, hml, ho, hwd⟩ hG hT (Nat.le_refl _) (Nat.le_refl _) ⟨Nat.le_refl _, Nat.le_refl _⟩ (js_cod (c := c) ha) (by decide) tw_cod.2.2.2 tw_0 tw_cod.1 tw_cod.2.1 tw_cod.2.2.1 ha ⟨by decide, by decide, rfl⟩ hH hsz hS hl.1 (Nat.le_of_ble_eq_true rfl) (show decode prog_16_method_54_code 6 = .ok (.invokevirtual 335, 3) by decide +kernel) (fun H1 locs1 hH1 hS1 => ?_)
  refine lv_ishr hx hb (show decode prog_16_method_54_code 9 = .ok (.ishr, 1) by decide +kernel) ?_
  rw [o2]
  exact W.iret hx hb hr (aq_end hH1 hS1) hS1.2.2 (show decode prog_16_method_54_code 10 = .ok (.ireturn, 1) by decide +kernel) hlk
/-- String.charAt -/
theorem js_cha {c a k : Nat} {cs : List Int32} (ha : E.2.2.2 a = some cs) (hk : k < cs.length) : MetS E G V l (c + 3) yCha prog_16_method_56_code 2 (some .char) [.ref a, .int (nI k)] ah (some (.int (cs.getD k 0))) := by
  refine metS_of rfl (Nat.le_refl 2) ?_
  intro p e s m below meth cd Ls C hl
  have C' := C
  obtain ⟨hx, hb, hml, hr, hlk, ho, hwd, hH, hsz, hG, hT⟩ := C
  obtain ⟨⟨o1, o2, o3⟩, x1, x2, x3, x4⟩ := hT.2.2 a cs ha
  have hS : va_S (fun q => E.1 ≤ q) s.heap s.heap [] := va_S.rf
  have l0 : Ls[0]? = some (.val (.ref a)) := lv_at hl 0 rfl
  have l1 : Ls[1]? = some (.val (.int (nI k))) := lv_at hl 1 rfl
  obtain ⟨q1, q2⟩ := o3 k hk
  refine lv_aload_n hx hb (k := 0) (show decode prog_16_method_56_code 0 = .ok (.aload_n 0, 1) by decide +kernel) rfl l0 ?_
  refine j_V (c := c) (As := []) (rest := []) (nL := 2) (own := "java/lang/String") ⟨hx, hb, hml, ho, hwd⟩ hG hT (by show c + 1 ≤ c + 3; omega) (by show 100 * (c + 1) ≤ 100 * (c + 3); omega) ⟨Nat.le_refl _, Nat.le_refl _⟩ (js_lat ha) (by decide) tw_lat.2.2.2 tw_0 tw_lat.1 tw_lat.2.1 tw_lat.2.2.1 ha ⟨by decide, by decide, rfl⟩ hH hsz hS hl.1 (by decide) (show decode prog_16_method_56_code 1 = .ok (.invokevirtual 492, 3) by decide +kernel) (fun H1 locs1 hH1 hS1 => ?_)
  refine lv_if_eq (tgt := 16) hx hb (show decode prog_16_method_56_code 4 = .ok (.ifCond .eq 12, 3) by decide +kernel) (by decide) (fun z => absurd z (by decide)) (fun _ => ?_)
  refine lv_aload_n hx hb (k := 0) (show decode prog_16_method_56_code 7 = .ok (.aload_n 0, 1) by decide +kernel) rfl l0 ?_
  refine vk_getf hx hb x3 hS1 ho (hwd _ tw_fv) (fun x h => h) (show decode prog_16_method_56_code 8 = .ok (.getfield 9, 3) by decide +kernel) ?_
  refine lv_iload_n hx hb (k := 1) (show decode prog_16_method_56_code 11 = .ok (.iload_n 1, 1) by decide +kernel) rfl l1 ?_
  refine W_size fun hz => ?_
  refine j_S (As := [.ref (V a), .int (nI k)]) (rest := []) (nL := 2) (own := "java/lang/String") ⟨hx, hb, hml, ho, hwd⟩ hG hT (Nat.le_refl _) (Nat.le_refl _) ⟨Nat.le_refl _, Nat.le_refl _⟩ (js_lca (c := c) ha hk) (by decide) tw_lca.2.2 tw_1 tw_lca.1 tw_lca.2.1 ⟨by decide, by decide, rfl⟩ hH1 (C'.sz hS1 hz) hS1 hl.1 (by decide) (show decode prog_16_method_56_code 12 = .ok (.invokestatic 495, 3) by decide +kernel) (fun H2 locs2 hH2 hS2 => ?_)
  exact W.zret hx hb hr q2 (aq_end hH2 hS2) hS2.2.2 (show decode prog_16_method_56_code 15 = .ok (.ireturn, 1) by decide +kernel) hlk
end STRS

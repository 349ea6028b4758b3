/-! The start of the machine: its tables and constants give the abstract machine's surroundings -/
noncomputable def nfl : List Jvm.Cond := flatC (Jvm.Cond.and given_1 narrow_1)
noncomputable def sE (i : Nat) : Nat := (([134, 148, 163, 48, 55, 63, 72, 82, 93, 107, 121] : List Nat)[i]?).getD 0
noncomputable def sK (i : Nat) : Nat := (([105, 111, 113, 126, 128, 130, 132, 134, 136, 138, 140] : List Nat)[i]?).getD 0
noncomputable def sN : List (List Nat) := [[0, 162, 179, 140, 141, 142, 143, 144, 145, 146, 147], [162, 0, 180, 154, 155, 156, 157, 158, 159, 160, 161], [179, 180, 0, 171, 172, 173, 174, 175, 176, 177, 178], [140, 154, 171, 0, 62, 70, 79, 89, 102, 115, 127], [141, 155, 172, 62, 0, 71, 80, 90, 103, 116, 128], [142, 156, 173, 70, 71, 0, 81, 91, 104, 117, 129], [143, 157, 174, 79, 80, 81, 0, 92, 105, 118, 130], [144, 158, 175, 89, 90, 91, 92, 0, 106, 119, 131], [145, 159, 176, 102, 103, 104, 105, 106, 0, 120, 132], [146, 160, 177, 115, 116, 117, 118, 119, 120, 0, 133], [147, 161, 178, 127, 128, 129, 130, 131, 132, 133, 0]]
noncomputable def sR : List (Nat × Nat) := [(4, 206), (4, 207), (4, 208), (4, 110), (4, 163), (4, 164), (4, 165), (4, 166), (4, 167), (4, 168), (4, 169)]
noncomputable def nP : List (Nat × Nat) := [(1, 35), (1, 70), (1, 89), (1, 100), (1, 102), (1, 123), (1, 160), (1, 206), (2, 6), (2, 40), (2, 45), (2, 47), (2, 50), (2, 52), (2, 54), (2, 55), (2, 70), (3, 14), (3, 15), (3, 16), (3, 18), (3, 19), (3, 21), (3, 23), (3, 25)]
noncomputable def tmS (i : Nat) : Term := .string "WheelTables$CardReader" (sK i)
noncomputable def bytL : List (List Int32) := (List.range 11).map fun i => (wS (100 + i)).map nI
noncomputable def lenL : List Nat := (List.range 11).map fun i => (wS (100 + i)).length
noncomputable def tCh : Term := .static "WheelTables$Errata" "CHOICES" "[I"
noncomputable def tPo : Term := .static "WheelTables$Errata" "POWERS" "[I"
theorem ns_1 : ∀ i, i < 11 → nfl[sE i]? = some (.exactly (tmS i) "java/lang/String") ∧ nfl[sE i + 1]? = some (.eq (.field (tmS i) "java/lang/String" "coder" "B") (.int 0)) ∧ nfl[sE i + 2]? = some (.arrayOf (.field (tmS i) "java/lang/String" "value" "[B") .byte) ∧ nfl[sE i + 3]? = some (.eq (.length (.field (tmS i) "java/lang/String" "value" "[B")) (.int (Int32.ofNat (lenL.getD i 0)))) ∧ ∀ j, j < lenL.getD i 0 → nfl[sE i + 4 + j]? = some (.eq (.elem (.field (tmS i) "java/lang/String" "value" "[B") (.int (Int32.ofNat j))) (.int ((bytL.getD i []).getD j 0))) := by decide +kernel
theorem ns_2 : ∀ i, i < 11 → ∀ j, j < 11 → i ≠ j → nfl[(sN.getD i []).getD j 0]? = some (.not (.eq (tmS i) (tmS j))) ∨ nfl[(sN.getD i []).getD j 0]? = some (.not (.eq (tmS j) (tmS i))) := by decide +kernel
theorem ns_3 : ∀ q, q < 25 → nfl[12 + q]? = some (.eq (.elem tCh (.int (Int32.ofNat q))) (.int (chI.getD q 0))) := by decide +kernel
theorem ns_4 : ∀ q, q < 8 → nfl[40 + q]? = some (.eq (.elem tPo (.int (Int32.ofNat q))) (.int (nI (10 ^ q)))) := by decide +kernel
theorem ns_5 : nfl[4]? = some (.eq (.static "java/lang/String" "COMPACT_STRINGS" "Z") (.int 1)) ∧ nfl[5]? = some (.isRef (.static "jdk/internal/util/Preconditions" "SIOOBE_FORMATTER" "Ljava/util/function/BiFunction;")) ∧ nfl[10]? = some (.arrayOf tCh .int) ∧ nfl[11]? = some (.eq (.length tCh) (.int (Int32.ofNat 25))) ∧ nfl[38]? = some (.arrayOf tPo .int) ∧ nfl[39]? = some (.eq (.length tPo) (.int (Int32.ofNat 8))) ∧ nfl[181]? = some (.not (.eq (.arg 0) tCh)) ∧ nfl[182]? = some (.not (.eq (.arg 0) tPo)) := by decide +kernel
theorem ns_6 : ∀ i, i < 11 → (bytL.getD i []).length = lenL.getD i 0 ∧ lenL.getD i 0 < 1000 ∧ Int32.ofNat (lenL.getD i 0) >>> ((0 : Int32) &&& 31) = Int32.ofNat (lenL.getD i 0) ∧ ∀ j, j < lenL.getD i 0 → (((bytL.getD i []).getD j 0 &&& 255).toUInt32 % 65536).toInt32 = (bytL.getD i []).getD j 0 ∧ narrow .char (.int ((bytL.getD i []).getD j 0)) = .int ((bytL.getD i []).getD j 0) := by decide +kernel
theorem ns_7 : ∀ i, i < 11 → (STs[i]?).map (fun q => (cnm q.1.1, q.1.2)) = some ("WheelTables$CardReader", sK i) ∧ ∃ q ∈ STs[i]?, ((sR[i]?).bind fun z => (tbj z.1)[z.2]?) = some (.stringRef (cnm q.1.1) q.1.2 q.2) := by decide +kernel
theorem nst_at : ∀ i, i < nst.length → ((nP[i]?).bind fun z => (tbj z.1)[z.2]?) = nst[i]? := by decide +kernel
theorem cl_has : ∀ k, k < 12 → ∃ e ∈ CLs, e.2 = k := by decide +kernel
theorem tb_of {o : Option (Nat × Nat)} {w : Jvm.Cond} (h : (o.bind fun z => (tbj z.1)[z.2]?) = some w) : w ∈ lw_tbl := by
  obtain ⟨z, -, hz⟩ := Option.bind_eq_some_iff.mp h
  exact tbj_in (List.mem_of_getElem? hz)
theorem nst_in : ∀ w ∈ nst, w ∈ lw_tbl := fun w hw => by
  obtain ⟨i, hi, rfl⟩ := List.getElem_of_mem hw
  exact tb_of ((nst_at i hi).trans (List.getElem?_eq_getElem hi))
theorem roX {args : Array Value} {s : State} {tm : Term} {N : Nat} {f : Nat → Int32} (hN : N < 2 ^ 31) (harr : (Cond.arrayOf tm .int).before args s = true) (hlen : (Term.length tm).eval args s none [] s = some (.int (Int32.ofNat N))) (hel : ∀ j, j < N → (Term.elem tm (.int (Int32.ofNat j))).eval args s none [] s = some (.int (f j))) : ∃ t, tm.eval args s none [] s = some (.ref t) ∧ t < s.heap.size ∧ va_X t N f s s.heap := by
  obtain ⟨t, ht, cell, hcell, hof, hkn, h1, h2, h3, -⟩ := va_Tof (A := fun _ => False) hN harr hlen hel (fun _ _ h => h)
  obtain ⟨t', cell', ht', hat, hv⟩ := Term.length_spec hlen
  cases ht.symm.trans ht'
  cases hcell.symm.trans (State.arrayAt?_spec hat).1
  have hlt : cell.slots.size < 2 ^ 31 := by
    have h := hlen
    simp [Term.eval, ht, hat] at h
    exact h.1
  have h4 : (Int32.ofNat cell.slots.size).toNatClampNeg = (Int32.ofNat N).toNatClampNeg := congrArg _ h2
  rw [Int32.toNatClampNeg_ofNat_of_lt hlt, Int32.toNatClampNeg_ofNat_of_lt hN] at h4
  exact ⟨t, ht, (Array.getElem?_eq_some_iff.mp hcell).1, cell, hcell, hof, hkn, h4, h3⟩
theorem cstS_s {n b : Nat} {v : Value} {U : State} (h : 2 ≤ n) : cstS n v b U = ∃ (q : (Nat × Nat) × String) (a : Nat), STs[n - 100]? = some q ∧ 100 ≤ n ∧ v = .ref a ∧ vk_R (cnm q.1.1) q.1.2 q.2 a U := by
  match n, h with
  | k + 2, _ => rfl
noncomputable def fnd (ad : Nat → Nat) (a : Nat) : Option Nat := (List.range 11).find? fun i => ad i == a
theorem fnd_is {ad : Nat → Nat} {a i : Nat} (h : fnd ad a = some i) : i < 11 ∧ ad i = a := by
  have h1 := List.find?_some h
  exact ⟨List.mem_range.mp (List.mem_of_find?_eq_some h), by simpa using h1⟩
theorem fnd_k {ad : Nat → Nat} (hi : ∀ i j, i < 11 → j < 11 → ad i = ad j → i = j) {i : Nat} (h : i < 11) : fnd ad (ad i) = some i := by
  cases hf : fnd ad (ad i) with
  | none =>
    have := List.find?_eq_none.mp hf i (List.mem_range.mpr h)
    simp at this
  | some j =>
    obtain ⟨h1, h2⟩ := fnd_is hf
    rw [hi j i h1 h h2]
theorem byt_at {i : Nat} (h : i < 11) : bytL.getD i [] = (wS (100 + i)).map nI := by
  unfold bytL
  simp [List.getD, h]
theorem arr_of {s : State} {args : Array Value} {ty : FieldType} (h : (Cond.arrayClass ty).before args s = true) : ∃ c, ArrOfT s c ty ∧ s.vm.findClass ("[" ++ ty.toString) = some c := by
  obtain ⟨c, k, p, h1, h2, h3⟩ := Cond.arrayClass_spec h
  exact ⟨c, fun n z => ⟨fun k h => (by cases h), k, h2, p, h3⟩, h1⟩
theorem arr_ob {s : State} {args : Array Value} {C : String} (h : (Cond.arrayOver (.object C)).before args s = true) : ∃ c, ArrOfT s c (.object C) ∧ va_RA s c (.object C) := by
  obtain ⟨p, c, k, h1, -, h3, h4, h5⟩ := Cond.arrayOver_spec h
  exact ⟨c, fun n z => ⟨fun k h => (by cases h), k, h3, p, h4⟩, k, p, h3, h4, h1, h5⟩
theorem env_all {s : State} {b L : Nat} {xs : Nat → Int32} (hts : ∀ w ∈ lw_tbl, w.before #[Value.ref b] s = true) (hX : va_X b L xs s s.heap) (hbl : b < s.heap.size) (hL : L ≤ 3072) (hgv : (Jvm.Cond.and given_1 narrow_1).before #[Value.ref b] s = true) : ∃ (E : aEnv) (G : aG) (V : Nat → Nat), E.1 = s.heap.size ∧ GS E G s ∧ TX E V s ∧ StE E ∧ ErE E ∧ SC E b L xs := by
  have hA : ∀ a : Nat, a < s.heap.size → ¬ (fun q => s.heap.size ≤ q) a := fun a h => Nat.not_le.mpr h
  have fl : ∀ {i : Nat} {w : Jvm.Cond}, nfl[i]? = some w → w.before #[Value.ref b] s = true := fun h => flat_of_before _ hgv _ (List.mem_of_getElem? h)
  have hw : ∀ w ∈ lw_g, w.before #[Value.ref b] s = true := fun w h => hts w (List.mem_filter.mp h).1
  have tb : ∀ {j i : Nat} {w : Jvm.Cond}, (tbj j)[i]? = some w → w.before #[Value.ref b] s = true := fun h => hts _ (tbj_in (List.mem_of_getElem? h))
  -- texts
  obtain ⟨adK, adV, hS, hev⟩ := vk_Sof (args := #[Value.ref b]) (s := s) (N := 11) (tm := tmS) (len := lenL) (byt := bytL) (A := fun q => s.heap.size ≤ q) (fun i hi => by have := (ns_6 i hi).2.1; omega) (fun i hi => fl (ns_1 i hi).1) (fun i hi => fl (ns_1 i hi).2.1) (fun i hi => fl (ns_1 i hi).2.2.1) (fun i hi => fl (ns_1 i hi).2.2.2.1) (fun i hi j hj => fl ((ns_1 i hi).2.2.2.2 j hj)) (fun i j hi hj hne => by
      rcases ns_2 i hi j hj hne with h | h
      · exact Or.inl (fl h)
      · exact Or.inr (fl h)) hA
  -- rows that nobody writes
  obtain ⟨n4, n5, n10, n11, n38, n39, n181, n182⟩ := ns_5
  obtain ⟨a0, e0, l0, x0⟩ := roX (f := fun q => chI.getD q 0) (by decide) (fl n10) (va_eqt (fl n11)) (fun j hj => va_eqt (fl (ns_3 j hj)))
  obtain ⟨a1, e1, l1, x1⟩ := roX (f := fun q => nI (10 ^ q)) (by decide) (fl n38) (va_eqt (fl n39)) (fun j hj => va_eqt (fl (ns_4 j hj)))
  have eb : (Term.arg 0).eval #[Value.ref b] s none [] s = some (.ref b) := rfl
  have ne0 : b ≠ a0 := va_neR (fl n181) eb e0
  have ne1 : b ≠ a1 := va_neR (fl n182) eb e1
  have ne2 : a1 ≠ a0 := by
    rintro rfl
    obtain ⟨c1, p1, -, -, q1, -⟩ := x0
    obtain ⟨c2, p2, -, -, q2, -⟩ := x1
    cases p1.symm.trans p2
    omega
  have hiE : (Jvm.Cond.initialized "WheelTables$Errata").before #[Value.ref b] s = true := tb (j := 1) (i := 6) rfl
  have z0 : va_Z "WheelTables$Errata" "CHOICES" "[I" (.ref a0) (fun q => s.heap.size ≤ q) s s.heap := va_Zof (tb (j := 5) (i := 138) rfl) hiE e0 hA
  have z1 : va_Z "WheelTables$Errata" "POWERS" "[I" (.ref a1) (fun q => s.heap.size ≤ q) s s.heap := va_Zof (tb (j := 5) (i := 152) rfl) hiE e1 hA
  -- classes
  obtain ⟨cI, i1, i2⟩ := arr_of (hw _ (mG_in cw_arr.1))
  obtain ⟨cJ, j1, j2⟩ := arr_of (hw _ (mG_in cw_arr.2.1))
  obtain ⟨cB, b1, b2⟩ := arr_of (hw _ (mG_in cw_arr.2.2.1))
  obtain ⟨cZ, y1, y2⟩ := arr_of (hw _ (mG_in cw_arr.2.2.2))
  have oT : (Jvm.Cond.arrayOver (.object "WheelTables$Tray")).before #[Value.ref b] s = true := tb (j := 1) (i := 30) rfl
  have oE : (Jvm.Cond.arrayOver (.object "WheelTables$Engine")).before #[Value.ref b] s = true := tb (j := 1) (i := 32) rfl
  have oR : (Jvm.Cond.arrayOver (.array .int)).before #[Value.ref b] s = true := tb (j := 1) (i := 165) rfl
  obtain ⟨cT, t1, t2⟩ := arr_ob oT
  obtain ⟨cE, g1, g2⟩ := arr_ob oE
  have oR' : AOI s := oR
  obtain ⟨pR, cR, kR, -, -, r3, r4, r5⟩ := AOI.spec oR'
  have hcl : ∀ k : Nat, ∃ q : ClassId × (Nat → Nat), ∀ r : vw_C, vwCl[k]? = some r → u_Kn s r.1 r.2.1 r.2.2 q.1 q.2 := by
    intro k
    cases hk : vwCl[k]? with
    | none => exact ⟨(cI, fun _ => 0), fun r h => by cases h⟩
    | some r =>
      have hl : k < 12 := (List.getElem?_eq_some_iff.mp hk).1
      obtain ⟨e, he, hv⟩ := cl_has k hl
      obtain ⟨pp, hp⟩ := zOK_at CLs_ok he
      unfold clOK at hp
      rw [hv, hk] at hp
      simp only [Bool.and_eq_true] at hp
      obtain ⟨cC, iS, h⟩ := u_known hw (vw_in hk) (hw _ (mG_in hp.1.2))
      exact ⟨(cC, iS), fun r' h' => by cases h'; exact h⟩
  obtain ⟨D, hD⟩ := Classical.axiomOfChoice hcl
  have hinj : ∀ i j, i < 11 → j < 11 → adK i = adK j → i = j := hS.2
  let E : aEnv := (s.heap.size, (fun a => if a = b then some (L, xs) else if a = a0 then some (25, fun q => chI.getD q 0) else if a = a1 then some (8, fun q => nI (10 ^ q)) else none), (fun n => if n = 0 then some (.ref a0) else if n = 1 then some (.ref a1) else if 100 ≤ n ∧ n < 111 then some (.ref (adK (n - 100))) else none), fun a => (fnd adK a).map fun i => bytL.getD i [])
  let G : aG := ((fun k => (D k).1, fun k => (D k).2), fun n => if n = 0 then cI else if n = 1 then cJ else if n = 2 then cB else if n = 3 then cZ else if n = 4 then cT else if n = 5 then cE else cR)
  refine ⟨E, G, fun a => adV ((fnd adK a).getD 0), rfl, ⟨⟨fun c q hq => hD c q hq, fun k q hk => ?_⟩, fun w h => ?_, oT, oE, Nat.le_refl _, fun a n f h => ?_, fun n v h => ?_, oR'⟩, ⟨va_Zof (tb (j := 4) (i := 124) rfl) (hw _ tw_0) (va_eqt (fl n4)) hA, va_Zqof (tb (j := 4) (i := 140) rfl) (hw _ tw_2) (fl n5) hA, fun a cs h => ?_⟩, fun k k1 k2 => ?_, ?_, hbl, if_pos rfl, hL⟩
  · match k, hk with
    | 0, hk => cases hk; exact ⟨i1, i2⟩
    | 1, hk => cases hk; exact ⟨j1, j2⟩
    | 2, hk => cases hk; exact ⟨b1, b2⟩
    | 3, hk => cases hk; exact ⟨y1, y2⟩
    | 4, hk => cases hk; exact ⟨t1, t2⟩
    | 5, hk => cases hk; exact ⟨g1, g2⟩
    | 6, hk => cases hk; exact ⟨fun n z => ⟨fun k h => (by cases h), kR, r3, pR, r4⟩, r5⟩
    | k + 7, hk => simp [tyz] at hk
  · have hb := hts w (nst_in w h)
    rcases nst_kinds w h with ⟨_, _, _, _, _, _, rfl⟩ | ⟨_, _, _, _, rfl⟩
    · exact va_Nw.of rfl hb
    · exact va_Nw.of rfl hb
  · have h : (if a = b then some (L, xs) else if a = a0 then some (25, fun q => chI.getD q 0) else if a = a1 then some (8, fun q => nI (10 ^ q)) else none) = some (n, f) := h
    split at h
    · next z => cases h; rw [z]; exact ⟨hbl, hX⟩
    · split at h
      · next z => cases h; rw [z]; exact ⟨l0, x0⟩
      · split at h
        · next z => cases h; rw [z]; exact ⟨l1, x1⟩
        · cases h
  · have h : (if n = 0 then some (Value.ref a0) else if n = 1 then some (.ref a1) else if 100 ≤ n ∧ n < 111 then some (.ref (adK (n - 100))) else none) = some v := h
    split at h
    · next z => cases h; rw [z]; exact z0
    · split at h
      · next z => cases h; rw [z]; exact z1
      · split at h
        · next z =>
          cases h
          rw [cstS_s (by omega)]
          obtain ⟨q1, q, hq, hr⟩ := ns_7 (n - 100) (by omega)
          have hq : STs[n - 100]? = some q := hq
          rw [hq] at q1
          obtain ⟨w1, w2⟩ := Prod.mk.inj (Option.some.inj q1)
          refine ⟨q, adK (n - 100), hq, z.1, rfl, vk_R.of (hts _ (tb_of hr)) ?_⟩
          rw [w1, w2]
          exact hev (n - 100) (by omega)
        · cases h
  · obtain ⟨i, hi, rfl⟩ := Option.map_eq_some_iff.mp (show (fnd adK a).map (fun i => bytL.getD i []) = some cs from h)
    obtain ⟨hl, rfl⟩ := fnd_is hi
    obtain ⟨c1, c2, c3, c4⟩ := ns_6 i hl
    obtain ⟨d1, d2, d3, d4⟩ := hS.1 i hl
    refine ⟨⟨by rw [c1]; exact c2, by rw [c1]; exact c3, fun j hj => c4 j (by rw [← c1]; exact hj)⟩, d1, d2, ?_, ?_⟩
    · show va_OF _ _ _ (.ref (adV ((fnd adK (adK i)).getD 0))) _ _ _ _
      rw [hi]
      exact d3
    · show va_T _ (adV ((fnd adK (adK i)).getD 0)) _ _ _ _ _
      rw [hi, c1]
      exact d4
  · refine ⟨adK (k - 100), ?_, ?_⟩
    · show (if k = 0 then some (Value.ref a0) else if k = 1 then some (.ref a1) else if 100 ≤ k ∧ k < 111 then some (.ref (adK (k - 100))) else none) = _
      rw [if_neg (by omega), if_neg (by omega), if_pos (by omega)]
    · show (fnd adK (adK (k - 100))).map (fun i => bytL.getD i []) = _
      rw [fnd_k hinj (by omega), Option.map_some, byt_at (by omega), show 100 + (k - 100) = k by omega]
  · refine ⟨a0, a1, _, _, rfl, rfl, l0, l1, ?_, ?_, fun q _ => rfl, fun q _ => rfl⟩
    · show (if a0 = b then some (L, xs) else if a0 = a0 then some (25, fun q => chI.getD q 0) else if a0 = a1 then some (8, fun q => nI (10 ^ q)) else none) = _
      rw [if_neg (Ne.symm ne0), if_pos rfl]
    · show (if a1 = b then some (L, xs) else if a1 = a0 then some (25, fun q => chI.getD q 0) else if a1 = a1 then some (8, fun q => nI (10 ^ q)) else none) = _
      rw [if_neg (Ne.symm ne1), if_neg ne2, if_pos rfl]

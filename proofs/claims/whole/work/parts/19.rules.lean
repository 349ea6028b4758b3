/-! the rules of the calculus, in the forms that the rows of the code use -/
noncomputable def WPo {α : Type} (o : Option α) (f : α → Prop) : Prop := match o with
  | some v => f v
  | none => False
theorem WPo_some {α : Type} (v : α) (f : α → Prop) : WPo (some v) f = f v := rfl
section RULES
variable {E : aEnv} {c k pc npc : Nat} {ls : aLs} {st : List Value} {ah : aHp} {Q : Option Value → aHp → Prop} {I : Instr}
theorem wp_no (hi : insAt k pc = some (I, npc)) (h1 : rtA I st = none) (h2 : clA I = none) (h3 : xtA E I st ah = none) (h4 : st1 E I npc ls st ah = none) : WP E c k pc ls st ah Q = False := by
  apply propext
  constructor
  · rintro ⟨f, r, a, h, hq⟩
    cases f with
    | zero => simp [rn] at h
    | succ f =>
      rw [rn] at h
      simp only [hi, h1, h2, h3, h4] at h
      cases h
  · exact False.elim
theorem wp_if {p : Prop} [Decidable p] {a b : Nat} : WP E c k (if p then a else b) ls st ah Q = if p then WP E c k a ls st ah Q else WP E c k b ls st ah Q := by split <;> rfl
/-- a call, as an equation -/
theorem wp_ce {n h : Nat} {r : Option Value} {ah1 : aHp} (hi : insAt k pc = some (I, npc)) (h1 : rtA I st = none) (h2 : clA I = some (n, h)) (h3 : cok E ah n h st = true) (h4 : EV E c n (st.take (mrow n).2.2.2.2.1).reverse ah r ah1) : WP E (c + 1) k pc ls st ah Q = WP E (c + 1) k npc ls (r.toList ++ st.drop (mrow n).2.2.2.2.1) ah1 Q := by
  apply propext
  constructor
  · rintro ⟨f, r2, a2, h, hq⟩
    cases f with
    | zero => simp [rn] at h
    | succ f =>
      rw [rn] at h
      simp only [hi, h1, h2, h3, if_true] at h
      split at h
      · cases h
      · next z hz =>
        obtain ⟨g, hg⟩ := h4
        have e1 := rn_le hz (Nat.le_max_left f g)
        have e2 := rn_le hg (Nat.le_max_right f g)
        rw [e1] at e2
        cases e2
        exact ⟨f, r2, a2, h, hq⟩
  · intro kk
    exact wp_cl hi h1 h2 h3 h4 kk
noncomputable def oGF (o : Option aE) (ci f : Nat) : Option Value := match o with
  | some (.inr q) => if q.1 = ci then q.2[f]? else none
  | _ => none
theorem oGF_is {ci f : Nat} {fs : List Value} : oGF (some (.inr (ci, fs))) ci f = fs[f]? := by simp [oGF]
theorem wp_getf {n a : Nat} (hi : insAt k pc = some (.getfield n, npc)) : WP E c k pc ls (.ref a :: st) ah Q = WPo (oGF (hg E ah a) (n / 1000) (n % 1000 / 10)) (fun v => WP E c k npc ls (v :: st) ah Q) := by
  cases ho : oGF (hg E ah a) (n / 1000) (n % 1000 / 10) with
  | some v =>
    refine wp_st (z := (npc, ls, v :: st, ah)) hi rfl rfl rfl ?_
    have h2 : hrA E (.getfield n) (.ref a :: st) ah = some (v :: st) := by
      unfold hrA gF
      unfold oGF at ho
      split at ho
      · next q hq =>
        split at ho
        · next hc => simp [hq, hc, ho]
        · cases ho
      · cases ho
    unfold st1
    simp only [h2]
    rfl
  | none =>
    refine wp_no hi rfl rfl rfl ?_
    have h2 : hrA E (.getfield n) (.ref a :: st) ah = none := by
      unfold hrA gF
      unfold oGF at ho
      split at ho
      · next q hq =>
        split at ho
        · next hc => simp [hq, hc, ho]
        · next hc => simp [hq, hc]
      · next hq =>
        cases hx : hg E ah a with
        | none => simp [hx]
        | some e =>
          cases e with
          | inl _ => simp [hx]
          | inr q => exact absurd hx (hq q)
    unfold st1
    simp only [h2]
    rfl
noncomputable def oPF (o : Option aE) (n : Nat) (v : Value) : Option aE := match o with
  | some (.inr q) => if q.1 = n / 1000 ∧ fitv (n % 10) v = true ∧ n % 1000 / 10 < q.2.length then some (.inr (q.1, q.2.set (n % 1000 / 10) v)) else none
  | _ => none
theorem wp_putf {n a : Nat} {v : Value} (hi : insAt k pc = some (.putfield n, npc)) : WP E c k pc ls (v :: .ref a :: st) ah Q = WPo (oPF (hg E ah a) n v) (fun e => WP E c k npc ls st (hs E ah a e) Q) := by
  cases ho : oPF (hg E ah a) n v with
  | some e =>
    refine wp_st (z := (npc, ls, st, hs E ah a e)) hi rfl rfl rfl ?_
    have h2 : hwA E (.putfield n) (v :: .ref a :: st) ah = some (st, hs E ah a e) := by
      unfold hwA pF
      unfold oPF at ho
      split at ho
      · next q hq =>
        split at ho
        · next hc =>
          cases ho
          simp [hq, hc]
        · cases ho
      · cases ho
    unfold st1
    simp only [h2]
    rfl
  | none =>
    refine wp_no hi rfl rfl rfl ?_
    have h2 : hwA E (.putfield n) (v :: .ref a :: st) ah = none := by
      unfold hwA pF
      unfold oPF at ho
      split at ho
      · next q hq =>
        split at ho
        · cases ho
        · next hc => simp only [hq, if_neg hc]
      · next hq =>
        cases hx : hg E ah a with
        | none => simp [hx]
        | some e =>
          cases e with
          | inl _ => simp [hx]
          | inr q => exact absurd hx (hq q)
    unfold st1
    simp only [h2]
    rfl
/-- what reads the heap, what writes it -/
theorem wp_hr (hi : insAt k pc = some (I, npc)) (h1 : rtA I st = none) (h2 : clA I = none) (h3 : xtA E I st ah = none) (ha : skA I st = none) (hb : ldA I ls = none) (hc : soA I ls st = none) (hd : jpA I npc st = none) (he : hwA E I st ah = none) : WP E c k pc ls st ah Q = WPo (hrA E I st ah) (fun st' => WP E c k npc ls st' ah Q) := by
  cases ho : hrA E I st ah with
  | some st' =>
    refine wp_st (z := (npc, ls, st', ah)) hi h1 h2 h3 ?_
    unfold st1
    simp only [ha, hb, hc, hd, ho]
  | none =>
    refine wp_no hi h1 h2 h3 ?_
    unfold st1
    simp only [ha, hb, hc, hd, ho, he]
theorem wp_hw (hi : insAt k pc = some (I, npc)) (h1 : rtA I st = none) (h2 : clA I = none) (h3 : xtA E I st ah = none) (ha : skA I st = none) (hb : ldA I ls = none) (hc : soA I ls st = none) (hd : jpA I npc st = none) (he : hrA E I st ah = none) : WP E c k pc ls st ah Q = WPo (hwA E I st ah) (fun q => WP E c k npc ls q.1 q.2 Q) := by
  cases ho : hwA E I st ah with
  | some q =>
    refine wp_st (z := (npc, ls, q.1, q.2)) hi h1 h2 h3 ?_
    unfold st1
    simp only [ha, hb, hc, hd, ho, he]
  | none =>
    refine wp_no hi h1 h2 h3 ?_
    unfold st1
    simp only [ha, hb, hc, hd, ho, he]
theorem gI_at {a n : Nat} {i : Int32} {f : Nat → Int32} (h : hg E ah a = some (.inl (0, n, .inl f))) (hin : vp_in i n) : gI E ah (.int i :: .ref a :: st) = some (.int (f i.toNatClampNeg) :: st) := by
  unfold gI
  simp only [h]
  rw [if_neg hin]
theorem gI_ro {a n : Nat} {i : Int32} {f : Nat → Int32} (h0 : hg E ah a = none) (h : E.2.1 a = some (n, f)) (hin : vp_in i n) : gI E ah (.int i :: .ref a :: st) = some (.int (f i.toNatClampNeg) :: st) := by
  unfold gI
  simp only [h0, h]
  rw [if_neg hin]
theorem gL_at {a n : Nat} {i : Int32} {f : Nat → Int64} (h : hg E ah a = some (.inl (1, n, .inr (.inl f)))) (hin : vp_in i n) : gL E ah (.int i :: .ref a :: st) = some (.long (f i.toNatClampNeg) :: st) := by
  unfold gL
  simp only [h]
  rw [if_neg hin]
theorem gB_at {a n : Nat} {i : Int32} {f : Nat → Int32} (h : hg E ah a = some (.inl (2, n, .inl f))) (hin : vp_in i n) : gB E ah (.int i :: .ref a :: st) = some (.int (f i.toNatClampNeg) :: st) := by
  unfold gB
  simp only [h]
  rw [if_neg hin]
theorem gZ_at {a n : Nat} {i : Int32} {f : Nat → Int32} (h : hg E ah a = some (.inl (3, n, .inl f))) (hin : vp_in i n) : gB E ah (.int i :: .ref a :: st) = some (.int (f i.toNatClampNeg) :: st) := by
  unfold gB
  simp only [h]
  rw [if_neg hin]
theorem gA_at {a n t : Nat} {i : Int32} {f : Nat → Option Nat} (h : hg E ah a = some (.inl (t, n, .inr (.inr (.inr (.inr f)))))) (h4 : 4 ≤ t) (h6 : t ≤ 6) (hin : vp_in i n) : gA E ah (.int i :: .ref a :: st) = some (va_rf (f i.toNatClampNeg) :: st) := by
  unfold gA
  simp only [h]
  rw [if_neg]
  rintro (q | q | q)
  · omega
  · omega
  · exact hin q
theorem gN_at {a n t : Nat} {w : (Nat → Int32) ⊕ (Nat → Int64) ⊕ (Nat → UInt32) ⊕ (Nat → UInt64) ⊕ (Nat → Option Nat)} (h : hg E ah a = some (.inl (t, n, w))) (h6 : t ≤ 6) : gN E ah (.ref a :: st) = some (.int (Int32.ofNat n) :: st) := by
  unfold gN
  simp only [h]
  rw [if_neg (by omega)]
theorem pI_at {a n : Nat} {i x : Int32} {f : Nat → Int32} (h : hg E ah a = some (.inl (0, n, .inl f))) (hin : vp_in i n) : pI E ah (.int x :: .int i :: .ref a :: st) = some (st, hs E ah a (.inl (0, n, .inl (upd f i.toNatClampNeg x)))) := by
  unfold pI
  simp only [h]
  rw [if_neg hin]
theorem pL_at {a n : Nat} {i : Int32} {x : Int64} {f : Nat → Int64} (h : hg E ah a = some (.inl (1, n, .inr (.inl f)))) (hin : vp_in i n) : pL E ah (.long x :: .int i :: .ref a :: st) = some (st, hs E ah a (.inl (1, n, .inr (.inl (vp_updL f i.toNatClampNeg x))))) := by
  unfold pL
  simp only [h]
  rw [if_neg hin]
theorem pB_at {a n : Nat} {i x : Int32} {f : Nat → Int32} (h : hg E ah a = some (.inl (2, n, .inl f))) (hin : vp_in i n) : pB E ah (.int x :: .int i :: .ref a :: st) = some (st, hs E ah a (.inl (2, n, .inl (upd f i.toNatClampNeg (vp_nar .byte x))))) := by
  unfold pB
  simp only [h]
  rw [if_neg hin]
theorem pZ_at {a n : Nat} {i x : Int32} {f : Nat → Int32} (h : hg E ah a = some (.inl (3, n, .inl f))) (hin : vp_in i n) : pB E ah (.int x :: .int i :: .ref a :: st) = some (st, hs E ah a (.inl (3, n, .inl (upd f i.toNatClampNeg (vp_nar .boolean x))))) := by
  unfold pB
  simp only [h]
  rw [if_neg hin]
theorem oPF_is {ci f tg : Nat} {fs : List Value} {v : Value} (hf : f < 100) (ht : tg < 10) (hv : fitv tg v = true) (hl : f < fs.length) : oPF (some (.inr (ci, fs))) (1000 * ci + 10 * f + tg) v = some (.inr (ci, fs.set f v)) := by
  obtain ⟨e1, e2, e3⟩ := num3 (a := ci) hf ht
  unfold oPF
  simp only [e1, e2, e3, hv, hl, and_self, if_true]
end RULES
theorem hg_same {E : aEnv} {ah : aHp} {a : Nat} {e e' : aE} (h : hg E ah a = some e) : hg E (hs E ah a e') a = some e' := by
  unfold hg at h
  split at h
  · next hb =>
    have hl := (List.getElem?_eq_some_iff.mp h).1
    unfold hg hs
    rw [if_pos hb, if_pos hb, List.getElem?_set_self hl]
  · cases h
theorem hg_ne {E : aEnv} {ah : aHp} {a b : Nat} {e' : aE} (h : a ≠ b) : hg E (hs E ah a e') b = hg E ah b := by
  unfold hg hs
  split
  · split
    · rw [List.getElem?_set_ne (by omega)]
    · rfl
  · rfl
theorem hs_hs {E : aEnv} {ah : aHp} {a : Nat} {e e' : aE} : hs E (hs E ah a e) a e' = hs E ah a e' := by
  unfold hs
  split
  · rw [List.set_set]
  · rfl
theorem hs_comm {E : aEnv} {ah : aHp} {a b : Nat} {e e' : aE} (h : a ≠ b) : hs E (hs E ah a e) b e' = hs E (hs E ah b e') a e := by
  unfold hs
  split
  · split
    · rw [List.set_comm _ _ (by omega)]
    · rfl
  · rfl
theorem hs_self {E : aEnv} {ah : aHp} {a : Nat} {e : aE} (h : hg E ah a = some e) : hs E ah a e = ah := by
  unfold hg at h
  unfold hs
  split at h
  · next hb =>
    rw [if_pos hb]
    apply List.ext_getElem?
    intro j
    by_cases hj : a - E.1 = j
    · subst hj
      rw [List.getElem?_set_self (List.getElem?_eq_some_iff.mp h).1, h]
    · rw [List.getElem?_set_ne hj]
  · cases h

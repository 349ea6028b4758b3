/-! THE LINKS: what the lists of part 02 say holds of the tables' words -/
noncomputable def lw_g : List Jvm.Cond := lw_tbl.filter goodWord
noncomputable def mG (w : Jvm.Cond) : Bool := decide (w ∈ lw_tbl) && goodWord w
theorem mG_in {w : Jvm.Cond} (h : mG w = true) : w ∈ lw_g := by
  simp only [mG, Bool.and_eq_true, decide_eq_true_eq] at h
  exact List.mem_filter.mpr ⟨h.1, h.2⟩
theorem lw_g_good : GoodIn lw_g lw_g := fun w h => ⟨h, good_of_word (List.mem_filter.mp h).2⟩
noncomputable def cnm (c : Nat) : String := (cnms[c]?).getD ""
theorem lk_in {α : Type} {xs : List ((Nat × Nat) × α)} {c i : Nat} {v : α} (h : lk xs c i = some v) : ((c, i), v) ∈ xs := by
  unfold lk at h
  obtain ⟨q, hq, rfl⟩ := Option.map_eq_some_iff.mp h
  have h1 := List.find?_some hq
  have h2 := List.mem_of_find?_eq_some hq
  simp only [Bool.and_eq_true, beq_iff_eq] at h1
  obtain ⟨⟨a, b⟩, v⟩ := q
  obtain ⟨rfl, rfl⟩ := h1
  exact h2
/-- kinds of fields -/
noncomputable def tgOK (tg : Nat) (ty : Option FieldType) : Bool := match ty with
  | some .int => tg == 0
  | some .long => tg == 1
  | some .boolean => tg == 3
  | some (.object _) => tg == 2
  | some (.array _) => tg == 2
  | _ => false
noncomputable def flOK (q : (Nat × Nat) × Nat × Nat × Nat × Bool) : Bool := match vwCl[q.2.1]? with
  | some r => decide (q.2.2.1 < r.2.2 ∧ q.2.2.1 < 100 ∧ q.2.2.2.1 < 10 ∧ (r.2.1 q.2.2.1).2.2.2 = pfin q.2.1 q.2.2.1) && tgOK q.2.2.2.1 (parseFieldDescriptor (r.2.1 q.2.2.1).2.2.1) &&
      (if q.2.2.2.2 then decide (Jvm.Cond.fieldLinkNest (cnm q.1.1) q.1.2 (r.2.1 q.2.2.1).1 (r.2.1 q.2.2.1).2.1 (r.2.1 q.2.2.1).2.2.1 "WheelTables" ∈ nst)
        else mG (Jvm.Cond.fieldLink (cnm q.1.1) q.1.2 (r.2.1 q.2.2.1).1 (r.2.1 q.2.2.1).2.1 (r.2.1 q.2.2.1).2.2.1)) &&
      (!(r.2.1 q.2.2.1).2.2.2 || decide ((r.2.1 q.2.2.1).1 = cnm q.1.1))
  | none => false
noncomputable def moK (n : Nat) : Bool := mG (.code (mrow n).1 (mrow n).2.1 (mrow n).2.2.1 (mrow n).2.2.2.1) && mG (.initialized (mrow n).1.cls) && plainName (mrow n).1.cls &&
  decide (((mrow n).1.cls ≠ "java/lang/invoke/MethodHandle" ∧ (mrow n).1.cls ≠ "java/lang/invoke/VarHandle") ∧ (mrow n).2.2.1 ≤ 60) &&
  (match mkd n with
    | 0 => mG (.static (mrow n).1) && decide ((parseMethodDescriptor (mrow n).1.desc).map (fun d => d.parameters.length) = some (mrow n).2.2.2.2.1)
    | 1 => mG (.instanceMethod (mrow n).1) && mG (.selects (mrow n).1.cls (mrow n).1 (mrow n).1) && decide ((parseMethodDescriptor (mrow n).1.desc).map (fun d => d.parameters.length + 1) = some (mrow n).2.2.2.2.1 ∧ (vwCl[(mrow n).2.2.2.2.2]?).map (fun q => q.1) = some (mrow n).1.cls)
    | 2 => mG (.instanceMethod (mrow n).1) && decide ((parseMethodDescriptor (mrow n).1.desc).map (fun d => d.parameters.length + 1) = some (mrow n).2.2.2.2.1 ∧ (mrow n).1.name = "<init>" ∧ (mrow n).2.2.2.1 = none)
    | _ => false)
noncomputable def mlOK (q : (Nat × Nat) × Nat × Bool) : Bool := (if q.2.2 then decide (Jvm.Cond.methodLinkNest (cnm q.1.1) q.1.2 (mrow q.2.1).1 "WheelTables" ∈ nst) else mG (Jvm.Cond.methodLink (cnm q.1.1) q.1.2 (mrow q.2.1).1)) && decide (q.2.1 < mtab.length)
noncomputable def ciOK (q : (Nat × Nat) × Int) : Bool := mG (.constant (cnm q.1.1) q.1.2 (Int32.ofInt q.2))
noncomputable def cjOK (q : (Nat × Nat) × Int) : Bool := mG (.constantLong (cnm q.1.1) q.1.2 (Int64.ofInt q.2))
noncomputable def clOK (q : (Nat × Nat) × Nat) : Bool := match vwCl[q.2]? with
  | some r => mG (.classLink (cnm q.1.1) q.1.2 r.1) && mG (.instantiable r.1 r.2.2) && mG (.initialized r.1)
  | none => false
noncomputable def xlOK (q : (Nat × Nat) × Nat) : Bool := match q.2 with
  | 0 => mG (.methodLink (cnm q.1.1) q.1.2 ⟨"java/lang/String", "length", "()I"⟩)
  | 1 => mG (.methodLink (cnm q.1.1) q.1.2 ⟨"java/lang/String", "charAt", "(I)C"⟩)
  | 2 => mG (.methodLink (cnm q.1.1) q.1.2 arraycopyName)
  | 4 => mG (.methodLink (cnm q.1.1) q.1.2 objectInit)
  | _ => false
theorem FLs_ok : FLs.all flOK = true := by decide +kernel
theorem CIs_ok : CIs.all ciOK = true := by decide +kernel
theorem CJs_ok : CJs.all cjOK = true := by decide +kernel
theorem CLs_ok : CLs.all clOK = true := by decide +kernel
theorem XLs_ok : XLs.all xlOK = true := by decide +kernel
theorem mcls_ok : mtab.all (fun r => decide (r.1.cls = cnm r.2.2.2.2.2)) = true := by decide +kernel
theorem MLs_ok : MLs.all mlOK = true := by decide +kernel
theorem moks_ok : (List.range 298).all moK = true := by decide +kernel
theorem mtab_len : mtab.length = 299 := by decide +kernel
theorem cw_obj : mG (.instanceMethod objectInit) = true ∧ mG (.code objectInit ⟨#[0xb1]⟩ 1 none) = true := by decide +kernel
theorem cw_cpy : mG (.native arraycopyName) = true ∧ mG (.static arraycopyName) = true ∧ mG (.initialized "java/lang/System") = true := by decide +kernel
theorem cw_arr : mG (.arrayClass .int) = true ∧ mG (.arrayClass .long) = true ∧ mG (.arrayClass .byte) = true ∧ mG (.arrayClass .boolean) = true := by decide +kernel

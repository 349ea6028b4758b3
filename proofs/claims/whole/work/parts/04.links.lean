/-! THE LINKS: what the lists of part 02 say holds of the tables' words -/
noncomputable def lw_g : List Jvm.Cond := lw_tbl.filter goodWord
noncomputable def tbj (j : Nat) : List Jvm.Cond := match j with
  | 0 => k2_sels lw_privs
  | 1 => tables_1_1
  | 2 => tables_1_2
  | 3 => tables_1_3
  | 4 => tables_1_4
  | 5 => tables_1_5
  | 6 => tables_1_6
  | 7 => tables_1_7
  | 8 => tables_1_8
  | _ => tables_1_9
theorem tbj_in {j : Nat} {w : Jvm.Cond} (h : w ∈ tbj j) : w ∈ lw_tbl := by
  unfold lw_tbl tables_1
  unfold tbj at h
  simp only [List.mem_append]
  split at h <;> simp [h]
noncomputable def mG (q : Nat × Nat) (w : Jvm.Cond) : Bool := decide ((tbj q.1)[q.2]? = some w) && goodWord w
theorem mG_in {q : Nat × Nat} {w : Jvm.Cond} (h : mG q w = true) : w ∈ lw_g := by
  simp only [mG, Bool.and_eq_true, decide_eq_true_eq] at h
  exact List.mem_filter.mpr ⟨tbj_in (List.mem_of_getElem? h.1), h.2⟩
theorem lw_g_good : GoodIn lw_g lw_g := fun w h => ⟨h, good_of_word (List.mem_filter.mp h).2⟩
noncomputable def cnm (c : Nat) : String := (cnms[c]?).getD ""
theorem lk_in {α : Type} {xs : List ((Nat × Nat) × α)} {c i : Nat} {v : α} (h : lk xs c i = some v) : ((c, i), v) ∈ xs := by
  unfold lk at h
  obtain ⟨q, hq, rfl⟩ := Option.map_eq_some_iff.mp h
  have h1 := List.find?_some hq
  have h2 := List.mem_of_find?_eq_some hq
  simp only [Bool.and_eq_true, beq_iff_eq] at h1
  obtain ⟨⟨a, b⟩, v⟩ := q
  obtain ⟨rfl, rfl⟩ := h1
  exact h2
/-- a list whose entries are good, each with its place -/
noncomputable def zOK {α β : Type} (f : α → β → Bool) (xs : List α) (ps : List β) : Bool := decide (xs.length ≤ ps.length) && (xs.zip ps).all fun q => f q.1 q.2
theorem zOK_at {α β : Type} {f : α → β → Bool} {xs : List α} {ps : List β} (h : zOK f xs ps = true) {x : α} (hx : x ∈ xs) : ∃ p, f x p = true := by
  simp only [zOK, Bool.and_eq_true, decide_eq_true_eq, List.all_eq_true] at h
  obtain ⟨i, hi, rfl⟩ := List.getElem_of_mem hx
  have hp : i < ps.length := by omega
  refine ⟨ps[i], h.2 (xs[i], ps[i]) ?_⟩
  exact List.mem_of_getElem? (i := i) (by simp [List.getElem?_zip_eq_some, hi, hp])
/-- kinds of fields -/
noncomputable def tgOK (tg : Nat) (ty : Option FieldType) : Bool := match ty with
  | some .int => tg == 0
  | some .long => tg == 1
  | some .boolean => tg == 3
  | some (.object _) => tg == 2
  | some (.array _) => tg == 2
  | _ => false
noncomputable def flOK (q : (Nat × Nat) × Nat × Nat × Nat × Bool) (p : Nat × Nat) : Bool := match vwCl[q.2.1]? with
  | some r => decide (q.2.2.1 < r.2.2 ∧ q.2.2.1 < 100 ∧ q.2.2.2.1 < 10 ∧ (r.2.1 q.2.2.1).2.2.2 = pfin q.2.1 q.2.2.1) && tgOK q.2.2.2.1 (parseFieldDescriptor (r.2.1 q.2.2.1).2.2.1) &&
      (if q.2.2.2.2 then decide (Jvm.Cond.fieldLinkNest (cnm q.1.1) q.1.2 (r.2.1 q.2.2.1).1 (r.2.1 q.2.2.1).2.1 (r.2.1 q.2.2.1).2.2.1 "WheelTables" ∈ nst)
        else mG p (Jvm.Cond.fieldLink (cnm q.1.1) q.1.2 (r.2.1 q.2.2.1).1 (r.2.1 q.2.2.1).2.1 (r.2.1 q.2.2.1).2.2.1)) &&
      decide ((r.2.1 q.2.2.1).1 = cnm q.2.1)
  | none => false
noncomputable def moK (n : Nat) (p : (Nat × Nat) × (Nat × Nat) × (Nat × Nat) × (Nat × Nat)) : Bool := decide ((mrow n).1 ≠ ⟨"WheelTablesLaw", "law", "([I)Z"⟩) && mG p.2.1 (.initialized (mrow n).1.cls) && plainFor (mrow n).1 &&
  decide (((mrow n).1.cls ≠ "java/lang/invoke/MethodHandle" ∧ (mrow n).1.cls ≠ "java/lang/invoke/VarHandle") ∧ (mrow n).2.2.1 ≤ 60) &&
  (match mkd n with
    | 0 => mG p.2.2.1 (.static (mrow n).1) && decide ((parseMethodDescriptor (mrow n).1.desc).map (fun d => d.parameters.length) = some (mrow n).2.2.2.2.1)
    | 1 => mG p.2.2.1 (.instanceMethod (mrow n).1) && mG p.2.2.2 (.selects (mrow n).1.cls (mrow n).1 (mrow n).1) && decide ((parseMethodDescriptor (mrow n).1.desc).map (fun d => d.parameters.length + 1) = some (mrow n).2.2.2.2.1 ∧ (vwCl[(mrow n).2.2.2.2.2]?).map (fun q => q.1) = some (mrow n).1.cls)
    | 2 => mG p.2.2.1 (.instanceMethod (mrow n).1) && decide ((parseMethodDescriptor (mrow n).1.desc).map (fun d => d.parameters.length + 1) = some (mrow n).2.2.2.2.1 ∧ (mrow n).1.name = "<init>" ∧ (mrow n).2.2.2.1 = none)
    | _ => false)
noncomputable def mlOK (q : (Nat × Nat) × Nat × Bool) (p : Nat × Nat) : Bool := (if q.2.2 then decide (Jvm.Cond.methodLinkNest (cnm q.1.1) q.1.2 (mrow q.2.1).1 "WheelTables" ∈ nst) else mG p (Jvm.Cond.methodLink (cnm q.1.1) q.1.2 (mrow q.2.1).1)) && decide (q.2.1 < 298)
noncomputable def ciOK (q : (Nat × Nat) × Int) (p : Nat × Nat) : Bool := mG p (.constant (cnm q.1.1) q.1.2 (Int32.ofInt q.2))
noncomputable def cjOK (q : (Nat × Nat) × Int) (p : Nat × Nat) : Bool := mG p (.constantLong (cnm q.1.1) q.1.2 (Int64.ofInt q.2))
noncomputable def clOK (q : (Nat × Nat) × Nat) (p : (Nat × Nat) × (Nat × Nat) × (Nat × Nat)) : Bool := match vwCl[q.2]? with
  | some r => mG p.1 (.classLink (cnm q.1.1) q.1.2 r.1) && mG p.2.1 (.instantiable r.1 r.2.2) && mG p.2.2 (.initialized r.1)
  | none => false
noncomputable def xlOK (q : (Nat × Nat) × Nat) (p : Nat × Nat) : Bool := match q.2 with
  | 0 => mG p (.methodLink (cnm q.1.1) q.1.2 ⟨"java/lang/String", "length", "()I"⟩)
  | 1 => mG p (.methodLink (cnm q.1.1) q.1.2 ⟨"java/lang/String", "charAt", "(I)C"⟩)
  | 2 => mG p (.methodLink (cnm q.1.1) q.1.2 arraycopyName)
  | 4 => mG p (.methodLink (cnm q.1.1) q.1.2 objectInit)
  | _ => false
theorem CIs_ok : zOK ciOK CIs CPs = true := by decide +kernel
theorem CJs_ok : zOK cjOK CJs JPs = true := by decide +kernel
theorem CLs_ok : zOK clOK CLs NPs = true := by decide +kernel
theorem XLs_ok : zOK xlOK XLs XPs = true := by decide +kernel
theorem FLs_ok : zOK flOK FLs FPs = true := by decide +kernel
theorem mcls_ok : mtab.all (fun r => decide (r.1.cls = cnm r.2.2.2.2.2)) = true := by decide +kernel
theorem cw_obj : mG pO1 (.instanceMethod objectInit) = true ∧ mG pO2 (.code objectInit ⟨#[0xb1]⟩ 1 none) = true := by decide +kernel
theorem cw_cpy : mG pY1 (.native arraycopyName) = true ∧ mG pY2 (.static arraycopyName) = true ∧ mG pY3 (.initialized "java/lang/System") = true := by decide +kernel
theorem cw_arr : mG pA0 (.arrayClass .int) = true ∧ mG pA1 (.arrayClass .long) = true ∧ mG pA2 (.arrayClass .byte) = true ∧ mG pA3 (.arrayClass .boolean) = true := by decide +kernel
/-- the classes' field words are among the words -/
noncomputable def wOK (q : vw_C) (ps : List (Nat × Nat)) : Bool := zOK (fun w p => mG p w) (u_ws q.1 q.2.1 q.2.2) ps
theorem wPs_ok : zOK wOK vwCl wPs = true := by decide +kernel
theorem vw_in {ci : Nat} {q : vw_C} (h : vwCl[ci]? = some q) : ∀ w ∈ u_ws q.1 q.2.1 q.2.2, w ∈ lw_g := by
  obtain ⟨ps, hp⟩ := zOK_at wPs_ok (List.mem_of_getElem? h)
  intro w hw
  obtain ⟨p, hp⟩ := zOK_at hp hw
  exact mG_in hp

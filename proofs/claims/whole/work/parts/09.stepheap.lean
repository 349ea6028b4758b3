/-! one step that reads or writes the heap -/
section STEPH
variable {E : aEnv} {G : aG} {c k : Nat} {p : Program} {l : Launch} {e : Env} {R : Room} {s : State} {m : MethodId} {args : Array Value} {below : List Frame} {meth : Method} {cd : Code} {Q : State → Prop}
variable {pc : Nat} {ls : aLs} {st : List Value} {ah : aHp} {z : Nat × aLs × List Value × aHp}
/-- what a field link says -/
theorem fl_at {x : Nat} {q : Nat × Nat × Nat × Bool} (h : lk FLs (mrow k).2.2.2.2.2 x = some q) : ∃ (C : String) (T : u_T) (N : Nat), vwCl[q.1]? = some (C, T, N) ∧ q.2.1 < N ∧ q.2.1 < 100 ∧ q.2.2.1 < 10 ∧ (T q.2.1).2.2.2 = pfin q.1 q.2.1 ∧ tgOK q.2.2.1 (parseFieldDescriptor (T q.2.1).2.2.1) = true ∧ (T q.2.1).1 = cnm q.1 ∧
    (if q.2.2.2 then Jvm.Cond.fieldLinkNest (mrow k).1.cls x (T q.2.1).1 (T q.2.1).2.1 (T q.2.1).2.2.1 "WheelTables" ∈ nst else Jvm.Cond.fieldLink (mrow k).1.cls x (T q.2.1).1 (T q.2.1).2.1 (T q.2.1).2.2.1 ∈ lw_g) := by
  obtain ⟨pp, hp⟩ := zOK_at FLs_ok (lk_in h)
  unfold flOK at hp
  split at hp
  · next r hr =>
    obtain ⟨C, T, N⟩ := r
    simp only [Bool.and_eq_true, decide_eq_true_eq] at hp
    obtain ⟨⟨⟨⟨h1, h2, h3, h4⟩, h5⟩, h6⟩, h7⟩ := hp
    refine ⟨C, T, N, hr, h1, h2, h3, h4, h5, h7, ?_⟩
    rw [mrow_cls]
    by_cases hn : q.2.2.2 = true
    · rw [if_pos hn] at h6 ⊢
      simpa using h6
    · rw [if_neg hn] at h6 ⊢
      exact mG_in h6
  · cases hp
theorem num3 {a b d : Nat} (hb : b < 100) (hd : d < 10) : (1000 * a + 10 * b + d) / 1000 = a ∧ (1000 * a + 10 * b + d) % 1000 / 10 = b ∧ (1000 * a + 10 * b + d) % 10 = d := by omega
theorem fit_is {tg : Nat} {v : Value} {ty : FieldType} (h1 : tgOK tg (some ty) = true) (h2 : fitv tg v = true) : narrow ty v = v ∧ fits ty v = true := by
  unfold tgOK at h1
  split at h1 <;> simp only [beq_iff_eq, reduceCtorEq] at h1 <;> rename_i he <;> cases he <;> subst h1 <;> cases v <;> simp [fitv] at h2
  all_goals first
    | exact ⟨rfl, rfl⟩
    | (rcases h2 with rfl | rfl <;> exact ⟨by decide, by decide⟩)
    | skip
theorem w_getfield {x : Nat} {q : Nat × Nat × Nat × Bool} (hk : lk FLs (mrow k).2.2.2.2.2 x = some q) (C : Cx E G c k p R s m args meth cd) (hd : decode (mrow k).2.1 pc = .ok (.getfield x, 3)) (h : st1 E (.getfield (1000 * q.1 + 10 * q.2.1 + q.2.2.1)) (pc + 3) ls st ah = some z) (kk : KK E G k p l e R s m args below meth cd Q z) : KK E G k p l e R s m args below meth cd Q (pc, ls, st, ah) := by
  obtain ⟨st', h2, rfl⟩ := st1_hr h rfl rfl rfl rfl rfl
  obtain ⟨a, r, fs, v, rfl, ha, hv, rfl⟩ := gF_is h2
  obtain ⟨Cn, T, N, hr, h1, h2, h3, h4, h5, h7, h6⟩ := fl_at hk
  obtain ⟨e1, e2, e3⟩ := num3 (a := q.1) h2 h3
  rw [e1] at ha
  rw [e2] at hv
  intro H locs Ls hH hS hL
  have hin : ∀ w ∈ u_ws Cn T N, w ∈ lw_g := vw_in hr
  obtain ⟨hw, -, -⟩ := hg_at (G := G) ha
  by_cases hn : q.2.2.2 = true
  · rw [if_pos hn] at h6
    exact va_getN C.1 C.2.1 C.2.2.2.2.2.2.2.1 hin C.2.2.2.2.2.2.1 C.2.2.2.2.2.2.2.2.2.2.1 hH _ hw hr q.2.1 h1 (va_Nw.use rfl (C.2.2.2.2.2.2.2.2.2.2.2.1 _ h6)) (fun _ h9 => h9) hv hd (kk H locs Ls hH hS hL)
  · rw [if_neg hn] at h6
    exact va_get C.1 C.2.1 C.2.2.2.2.2.2.2.1 hin C.2.2.2.2.2.2.1 C.2.2.2.2.2.2.2.2.2.2.1 hH _ hw hr q.2.1 h1 (C.2.2.2.2.2.2.2.1 _ h6) (fun _ h9 => h9) hv hd (kk H locs Ls hH hS hL)
theorem kkw {H : Heap} {locs : List Loc} {g : JFrame} {a : Nat} {e' : aE} (h : W p l e R s m args below meth cd H locs (E.1 + (hs E ah a e').length - s.heap.size) (wid * (E.1 + (hs E ah a e').length - s.heap.size)) Q g) : W p l e R s m args below meth cd H locs (E.1 + ah.length - s.heap.size) (wid * (E.1 + ah.length - s.heap.size)) Q g := by
  rw [hs_len] at h
  exact h
/-- the classes' types and names, once more, of a class by its number -/
theorem cls_ty {ci : Nat} {Cn : String} {T : u_T} {N : Nat} (h : vwCl[ci]? = some (Cn, T, N)) : ∃ ty0 : Nat → FieldType, (∀ k, k < N → parseFieldDescriptor (T k).2.2.1 = some (ty0 k)) ∧ ∀ a, a < N → ∀ b, b < N → a ≠ b → (T a).2.1 ≠ (T b).2.1 := by
  match ci, h with
  | 0, h => cases h; exact ⟨tyX0, tyX0_ok, nmX0⟩
  | 1, h => cases h; exact ⟨tyX1, tyX1_ok, nmX1⟩
  | 2, h => cases h; exact ⟨tyX3, tyX3_ok, nmX3⟩
  | 3, h => cases h; exact ⟨tyX4, tyX4_ok, nmX4⟩
  | 4, h => cases h; exact ⟨tyX5, tyX5_ok, nmX5⟩
  | 5, h => cases h; exact ⟨tyX6, tyX6_ok, nmX6⟩
  | 6, h => cases h; exact ⟨tyX7, tyX7_ok, nmX7⟩
  | 7, h => cases h; exact ⟨tyX8, tyX8_ok, nmX8⟩
  | 8, h => cases h; exact ⟨tyX9, tyX9_ok, nmX9⟩
  | 9, h => cases h; exact ⟨tyX10, tyX10_ok, nmX10⟩
  | 10, h => cases h; exact ⟨tyX11, tyX11_ok, nmX11⟩
  | 11, h => cases h; exact ⟨tyX12, tyX12_ok, nmX12⟩
  | n + 12, h => simp [vwCl] at h
theorem w_putfield {x : Nat} {q : Nat × Nat × Nat × Bool} (hk : lk FLs (mrow k).2.2.2.2.2 x = some q) (hf : pfin q.1 q.2.1 = false ∨ ((mrow k).1.name = "<init>" ∧ q.1 = (mrow k).2.2.2.2.2 ∧ q.2.2.2 = false)) (C : Cx E G c k p R s m args meth cd) (hd : decode (mrow k).2.1 pc = .ok (.putfield x, 3)) (h : st1 E (.putfield (1000 * q.1 + 10 * q.2.1 + q.2.2.1)) (pc + 3) ls st ah = some z) (kk : KK E G k p l e R s m args below meth cd Q z) : KK E G k p l e R s m args below meth cd Q (pc, ls, st, ah) := by
  obtain ⟨st', h2, rfl⟩ := st1_hw h rfl rfl rfl rfl rfl
  obtain ⟨v, a, r, fs, rfl, ha, hv, hl, rfl⟩ := pF_is h2
  obtain ⟨Cn, T, N, hr, h1, h2, h3, h4, h5, h7, h6⟩ := fl_at hk
  obtain ⟨e1, e2, e3⟩ := num3 (a := q.1) h2 h3
  rw [e1] at ha
  rw [e3] at hv
  rw [e2] at hl
  obtain ⟨ty0, hty, hnm⟩ := cls_ty hr
  have hd0 := hty q.2.1 h1
  rw [hd0] at h5
  obtain ⟨hn1, hn2⟩ := fit_is h5 hv
  intro H locs Ls hH hS hL
  have hin : ∀ w ∈ u_ws Cn T N, w ∈ lw_g := vw_in hr
  obtain ⟨hw, hb, -⟩ := hg_at (G := G) ha
  have kk' : ∀ (H1 : Heap) (locs1 : List Loc), va_P G.1 vwCl ((aw_ws G.2 E.1 ah).set (a - E.1) (a, .inr (q.1, fs.set q.2.1 v))) H1 → va_D (fun q => E.1 ≤ q) ((aw_ws G.2 E.1 ah).set (a - E.1) (a, .inr (q.1, fs.set q.2.1 v))) → va_S (fun q => E.1 ≤ q) s.heap H1 locs1 → W p l e R s m args below meth cd H1 locs1 (E.1 + ah.length - s.heap.size) (wid * (E.1 + ah.length - s.heap.size)) Q (F0 m (pc + 3) Ls r) := by
    intro H1 locs1 k1 _ k3
    have kz := kk H1 locs1 Ls (by
      show va_P G.1 vwCl (aw_ws G.2 E.1 (hs E ah a (.inr ((1000 * q.1 + 10 * q.2.1 + q.2.2.1) / 1000, fs.set ((1000 * q.1 + 10 * q.2.1 + q.2.2.1) % 1000 / 10) v)))) H1
      rw [e1, e2, hs_ws hb]
      exact k1) k3 hL
    exact kkw kz
  by_cases hn : q.2.2.2 = true
  · rw [if_pos hn] at h6
    have hpf : (T q.2.1).2.2.2 = false := by
      rw [h4]
      rcases hf with h | h
      · exact h
      · rw [hn] at h; cases h.2.2
    exact va_putN C.1 C.2.1 C.2.2.2.2.2.2.2.1 hin ty0 hty hnm C.2.2.2.2.2.2.1 C.2.2.2.2.2.2.2.2.2.2.1 hH (aw_D E G ah) hS _ hw hr q.2.1 h1 (va_Nw.use rfl (C.2.2.2.2.2.2.2.2.2.2.2.1 _ h6)) (fun _ h9 => h9) hpf hd0 hn1 hn2 hl hd kk'
  · rw [if_neg hn] at h6
    by_cases hpf : (T q.2.1).2.2.2 = false
    · exact va_put C.1 C.2.1 C.2.2.2.2.2.2.2.1 hin ty0 hty hnm C.2.2.2.2.2.2.1 C.2.2.2.2.2.2.2.2.2.2.1 hH (aw_D E G ah) hS _ hw hr q.2.1 h1 (C.2.2.2.2.2.2.2.1 _ h6) (fun _ h9 => h9) hpf hd0 hn1 hn2 hl hd kk'
    · have hpt : (T q.2.1).2.2.2 = true := by cases hz : (T q.2.1).2.2.2 with
        | true => rfl
        | false => exact absurd hz hpf
      rcases hf with h | ⟨hi1, hi2, -⟩
      · rw [h4, h] at hpt; cases hpt
      · exact va_putF C.1 C.2.1 C.2.2.2.2.2.2.2.1 hin ty0 hty hnm C.2.2.2.2.2.2.1 C.2.2.2.2.2.2.2.2.2.2.1 hH (aw_D E G ah) hS _ hw hr q.2.1 h1 (C.2.2.2.2.2.2.2.1 _ h6) (fun _ h9 => h9) hpt (by rw [C.2.2.2.2.2.1]; exact hi1) (by rw [h7, mrow_cls, hi2]) hd0 hn1 hn2 hl hd kk'
end STEPH

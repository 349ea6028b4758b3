/-! The relation between the class and the model, module by module; each with what it rests on -/
noncomputable def qS (A : Nat → Nat) (S : Nat → aE) (v : Nat → Value) (en tx sp : Nat) (hT : Int32) (tl : Nat) (st : Int32) : Prop := S 0 = xO A tx sp hT (nI en) (nI tl) st ∧ v 0 = .int st ∧ tl ≤ 500
noncomputable def qT (A : Nat → Nat) (S : Nat → aE) (ai : Nat → Nat → Int32) (al : Nat → Nat → Int64) (sr : Nat → Int32) (mn : Nat → Nat) (tn : Nat → Nat → Int64) : Prop := trS A S sr mn tn ∧ TM ai al sr mn tn
noncomputable def qE (A : Nat → Nat) (S : Nat → aE) (v : Nat → Value) (ai : Nat → Nat → Int32) (en : Nat) (ax wh : Nat → Nat) (rx : Nat → Nat → Nat) (fg : Nat → Nat → Nat → Nat) (tu ms : Nat → Nat) (mq : Nat → Nat → Nat → Nat) : Prop := enS A S en ax wh rx fg tu ms mq ∧ enM v ai en ax wh rx fg tu ms mq
noncomputable def qJ (A : Nat → Nat) (S : Nat → aE) (v : Nat → Value) (ai : Nat → Nat → Int32) (en : Nat) (ax wh : Nat → Nat) : Prop := ∃ jn ja jw jt, jbX A S en ax wh jn ja jw jt ∧ jbM v ai jn ja jw jt
noncomputable def qC (A : Nat → Nat) (S : Nat → aE) (v : Nat → Value) : Prop := ∃ o, csX A S o ∧ csM v o
noncomputable def qP (A : Nat → Nat) (S : Nat → aE) (v : Nat → Value) (ai : Nat → Nat → Int32) : Prop := ∃ f n q t d g hc, plS A S f n q t d ∧ PM v ai f n q t d ∧ PIv f n q g hc
noncomputable def qB (S : Nat → aE) (v : Nat → Value) (ai : Nat → Nat → Int32) (tl : Nat) : Prop := S 13 = .inl (2, 500, .inl (ai 28)) ∧ v 29 = .int (nI tl)
noncomputable def qD (A : Nat → Nat) (S : Nat → aE) (v : Nat → Value) : Prop := ∃ fk fa, rdX A S fk fa ∧ v 31 = .int fk ∧ v 32 = .int fa
noncomputable def qK (A : Nat → Nat) (S : Nat → aE) (v : Nat → Value) (ai : Nat → Nat → Int32) (al : Nat → Nat → Int64) (tx sp : Nat) (hT : Int32) : Prop := ((tx = 61 ∧ sp = 67) ∨ (tx = 67 ∧ sp = 61)) ∧ (∃ kd wn nm ls wl cn, dkH A S sp kd wn nm ls wl cn) ∧ (∃ kd wn nm ls wl cn, dkH A S tx kd wn nm ls wl cn ∧ ((hT = 0 ∧ v 41 = .int (-1)) ∨ (hT = 1 ∧ v 41 = .int (nI cn) ∧ ∃ D, dkOK D cn ∧ ∀ i, i < cn → dkI kd wn nm ls wl i (D i) ∧ mkJ ai al i (D i)))) ∧ bB (ai 45) ∧ bB (ai 51)
noncomputable def qM (A : Nat → Nat) (S : Nat → aE) (v : Nat → Value) (al : Nat → Nat → Int64) : Prop := ∃ hr pn pl pr k1 k2 k3 k4 j1 j2 j3 j4, mlX A S hr pn pl pr k1 k2 k3 k4 ∧ mlM v al hr pn pl pr j1 j2 j3 j4 ∧ (hr = true → k1 = j1 ∧ k2 = j2 ∧ k3 = j3 ∧ k4 = j4)
noncomputable def qR (A : Nat → Nat) (S : Nat → aE) (v : Nat → Value) (ai : Nat → Nat → Int32) : Prop := ∃ fn wi sh, erW A S fn wi sh ∧ erM v ai fn wi sh
section QF
variable {A : Nat → Nat} {S S' : Nat → aE} {v v' : Nat → Value} {ai ai' : Nat → Nat → Int32} {al al' : Nat → Nat → Int64}
theorem qT.fr {sr : Nat → Int32} {mn : Nat → Nat} {tn : Nat → Nat → Int64} (h : qT A S ai al sr mn tn) (hS : ∀ q, q = 1 ∨ (73 ≤ q ∧ q ≤ 80) → S' q = S q) (hi : ∀ k, k = 2 ∨ k = 3 → ai' k = ai k) (hl : al' 4 = al 4) : qT A S' ai' al' sr mn tn := ⟨h.1.fr hS, TM_fr h.2 hi hl⟩
theorem enM_f2 {en : Nat} {ax wh : Nat → Nat} {rx : Nat → Nat → Nat} {fg : Nat → Nat → Nat → Nat} {tu ms : Nat → Nat} {mq : Nat → Nat → Nat → Nat} (hm : enM v ai en ax wh rx fg tu ms mq) (hv : v' 5 = v 5) (hi : ∀ k, 6 ≤ k → k ≤ 16 → ai' k = ai k) : enM v' ai' en ax wh rx fg tu ms mq := by
  obtain ⟨h1, h2, h3, h4⟩ := hm
  refine ⟨h1, by rw [hv]; exact h2, fun e he => ?_, fun e e1 e2 => ?_⟩
  · obtain ⟨a, b, d, f⟩ := h3 e he
    exact ⟨EQ_fr a (fun k hk => hi k (by omega) (by omega)), by rw [hi 10 (by decide) (by decide)]; exact b, by rw [hi 8 (by decide) (by decide)]; exact d, EM_fr f (fun k k1 k2 => hi k (by omega) (by omega))⟩
  · rw [hi 8 (by decide) (by decide), hi 12 (by decide) (by decide), hi 10 (by decide) (by decide)]
    exact h4 e e1 e2
theorem qE.fr {en : Nat} {ax wh : Nat → Nat} {rx : Nat → Nat → Nat} {fg : Nat → Nat → Nat → Nat} {tu ms : Nat → Nat} {mq : Nat → Nat → Nat → Nat} (h : qE A S v ai en ax wh rx fg tu ms mq) (hS : ∀ q, q = 2 ∨ 81 ≤ q → S' q = S q) (hv : v' 5 = v 5) (hi : ∀ k, 6 ≤ k → k ≤ 16 → ai' k = ai k) : qE A S' v' ai' en ax wh rx fg tu ms mq := ⟨h.1.fr hS, enM_f2 h.2 hv hi⟩
theorem qJ.fr {en : Nat} {ax wh : Nat → Nat} (h : qJ A S v ai en ax wh) (hS : ∀ q, 54 ≤ q ∧ q ≤ 60 → S' q = S q) (hv : v' 82 = v 82) (hi : ∀ k, 90 ≤ k → k ≤ 92 → ai' k = ai k) : qJ A S' v' ai' en ax wh := by
  obtain ⟨jn, ja, jw, jt, ⟨l, b, ji, c1, c2, c3⟩, m1, m2, m3⟩ := h
  refine ⟨jn, ja, jw, jt, ⟨l, b, ji, fun q hq => by rw [hS _ (by omega)]; exact c1 q hq, c2, c3⟩, m1, by rw [hv]; exact m2, fun j hj => ?_⟩
  rw [hi 90 (by decide) (by decide), hi 91 (by decide) (by decide), hi 92 (by decide) (by decide)]
  exact m3 j hj
theorem qC.fr (h : qC A S v) (hS : ∀ q, 3 ≤ q ∧ q ≤ 7 → S' q = S q) (hv : ∀ k, 22 ≤ k ∧ k ≤ 25 → v' k = v k) : qC A S' v' := by
  obtain ⟨o, ⟨tl, t, a, w, k, bf, af, as, sh, c1, c2⟩, c3⟩ := h
  refine ⟨o, ⟨tl, t, a, w, k, bf, af, as, sh, fun q hq => by rw [hS _ (by omega)]; exact c1 q hq, c2⟩, ?_⟩
  cases o with
  | none =>
    show v' 22 = _
    rw [hv 22 (by omega)]
    exact c3
  | some x =>
    obtain ⟨t0, a0, w0, k0⟩ := x
    obtain ⟨⟨x1, x2, x3, x4⟩, y⟩ := c3
    exact ⟨⟨by rw [hv 22 (by omega)]; exact x1, by rw [hv 23 (by omega)]; exact x2, by rw [hv 24 (by omega)]; exact x3, by rw [hv 25 (by omega)]; exact x4⟩, y⟩
theorem qP.fr (h : qP A S v ai) (hS : ∀ q, 46 ≤ q ∧ q ≤ 53 → S' q = S q) (hv : ∀ k, 77 ≤ k ∧ k ≤ 81 → v' k = v k) (hi : ∀ k, 83 ≤ k ∧ k ≤ 89 → ai' k = ai k) : qP A S' v' ai' := by
  obtain ⟨f, n, q, t, d, g, hc, p, m, i⟩ := h
  refine ⟨f, n, q, t, d, g, hc, ?_, ?_, i⟩
  · obtain ⟨a1, a2, a3, a4, a5, a6, a7, a8, b⟩ := p
    exact ⟨by rw [hS 46 (by omega)]; exact a1, by rw [hS 47 (by omega)]; exact a2, by rw [hS 48 (by omega)]; exact a3, by rw [hS 49 (by omega)]; exact a4, by rw [hS 50 (by omega)]; exact a5, by rw [hS 51 (by omega)]; exact a6, by rw [hS 52 (by omega)]; exact a7, by rw [hS 53 (by omega)]; exact a8, b⟩
  · unfold PM
    rw [hv 77 (by omega), hv 78 (by omega), hv 79 (by omega), hv 80 (by omega), hv 81 (by omega), hi 83 (by omega), hi 84 (by omega), hi 85 (by omega), hi 86 (by omega), hi 87 (by omega), hi 88 (by omega), hi 89 (by omega)]
    exact m
theorem qB.fr {tl : Nat} (h : qB S v ai tl) (hS : S' 13 = S 13) (hv : v' 29 = v 29) (hi : ai' 28 = ai 28) : qB S' v' ai' tl := ⟨by rw [hS, hi]; exact h.1, by rw [hv]; exact h.2⟩
theorem qD.fr (h : qD A S v) (hS : S' 14 = S 14) (hv : v' 31 = v 31) (hv2 : v' 32 = v 32) : qD A S' v' := by
  obtain ⟨fk, fa, ⟨x1, x2, x3, x4, x5, x6, x⟩, y1, y2⟩ := h
  exact ⟨fk, fa, ⟨x1, x2, x3, x4, x5, x6, by rw [hS]; exact x⟩, by rw [hv]; exact y1, by rw [hv2]; exact y2⟩
theorem dkH_fr {b cn : Nat} {kd wn nm ls : Nat → Int32} {wl : Nat → Int64} (h : dkH A S b kd wn nm ls wl cn) (hS : ∀ q, b ≤ q ∧ q ≤ b + 5 → S' q = S q) : dkH A S' b kd wn nm ls wl cn := by
  obtain ⟨h1, h2, h3, h4, h5, h6⟩ := h
  exact ⟨by rw [hS _ (by omega)]; exact h1, by rw [hS _ (by omega)]; exact h2, by rw [hS _ (by omega)]; exact h3, by rw [hS _ (by omega)]; exact h4, by rw [hS _ (by omega)]; exact h5, by rw [hS _ (by omega)]; exact h6⟩
theorem mkJ_fr {i : Nat} {C : aCd} (h : mkJ ai al i C) (hi : ∀ k, 43 ≤ k ∧ k ≤ 48 → ai' k = ai k) (hl : al' 56 = al 56) : mkJ ai' al' i C := by
  unfold mkJ
  rw [hi 43 (by omega), hi 44 (by omega), hi 45 (by omega), hi 46 (by omega), hi 47 (by omega), hi 48 (by omega), hl]
  exact h
theorem qK.fr {tx sp : Nat} {hT : Int32} (h : qK A S v ai al tx sp hT) (hS : ∀ q, 61 ≤ q ∧ q ≤ 72 → S' q = S q) (hv : v' 41 = v 41) (hi : ∀ k, (43 ≤ k ∧ k ≤ 48) ∨ k = 51 → ai' k = ai k) (hl : al' 56 = al 56) : qK A S' v' ai' al' tx sp hT := by
  obtain ⟨h1, ⟨kd, wn, nm, ls, wl, cn, h2⟩, ⟨kd', wn', nm', ls', wl', cn', h3, h4⟩, h5, h6⟩ := h
  refine ⟨h1, ⟨kd, wn, nm, ls, wl, cn, dkH_fr h2 (fun q hq => hS q (by omega))⟩, ⟨kd', wn', nm', ls', wl', cn', dkH_fr h3 (fun q hq => hS q (by omega)), ?_⟩, by rw [hi 45 (by omega)]; exact h5, by rw [hi 51 (by omega)]; exact h6⟩
  rcases h4 with ⟨a, b⟩ | ⟨a, b, D, d1, d2⟩
  · exact Or.inl ⟨a, by rw [hv]; exact b⟩
  · exact Or.inr ⟨a, by rw [hv]; exact b, D, d1, fun i h => ⟨(d2 i h).1, mkJ_fr (d2 i h).2 (fun k hk => hi k (Or.inl hk)) hl⟩⟩
theorem qM.fr (h : qM A S v al) (hS : ∀ q, 16 ≤ q ∧ q ≤ 18 → S' q = S q) (hv : ∀ k, k = 60 ∨ (62 ≤ k ∧ k ≤ 66) → v' k = v k) (hl : ∀ k, k = 58 ∨ k = 59 → al' k = al k) : qM A S' v' al' := by
  obtain ⟨hr, pn, pl, pr, k1, k2, k3, k4, j1, j2, j3, j4, ⟨x1, lv, at', x2, x3, x4⟩, ⟨y1, y2, y3, y4, y5, y6, y7, y8, y9⟩, z⟩ := h
  exact ⟨hr, pn, pl, pr, k1, k2, k3, k4, j1, j2, j3, j4, ⟨x1, lv, at', by rw [hS 16 (by omega)]; exact x2, by rw [hS 17 (by omega)]; exact x3, by rw [hS 18 (by omega)]; exact x4⟩, ⟨y1, by rw [hv 60 (by omega)]; exact y2, by rw [hv 62 (by omega)]; exact y3, by rw [hv 63 (by omega)]; exact y4, by rw [hv 64 (by omega)]; exact y5, by rw [hv 65 (by omega)]; exact y6, by rw [hv 66 (by omega)]; exact y7, by rw [hl 58 (by omega)]; exact y8, by rw [hl 59 (by omega)]; exact y9⟩, z⟩
theorem eS_fr {fn mn od bd : Int32} {lo hi : Int64} {vl oc wi sh : Nat → Int32} {dl : Nat → Int64} {OP : Nat → Nat → Int32} (h : S = eS A S fn mn od bd lo hi vl oc wi sh dl OP) (hS : ∀ q, 19 ≤ q ∧ q ≤ 45 → S' q = S q) : S' = eS A S' fn mn od bd lo hi vl oc wi sh dl OP := by
  funext q
  by_cases z : 19 ≤ q ∧ q ≤ 45
  · rw [hS q z, h]
    unfold eS
    split
    · rfl
    · split
      · rfl
      · split
        · rfl
        · split
          · rfl
          · split
            · rfl
            · split
              · rfl
              · split
                · rfl
                · split
                  · rfl
                  · omega
  · rw [eS_ne z]
theorem qR.fr (h : qR A S v ai) (hS : ∀ q, 19 ≤ q ∧ q ≤ 45 → S' q = S q) (hv : v' 74 = v 74) (hi : ∀ k, k = 97 ∨ k = 98 → ai' k = ai k) : qR A S' v' ai' := by
  obtain ⟨fn, wi, sh, ⟨x1, mn, od, bd, lo, hi', vl, oc, dl, OP, x2⟩, y1, y2, y3⟩ := h
  exact ⟨fn, wi, sh, ⟨x1, mn, od, bd, lo, hi', vl, oc, dl, OP, eS_fr x2 hS⟩, y1, by rw [hv]; exact y2, by rw [hi 97 (by omega), hi 98 (by omega)]; exact y3⟩
theorem fnX.fr (h : fnX A S) (hS : ∀ q, 8 ≤ q ∧ q ≤ 12 → S' q = S q) : fnX A S' := by
  obtain ⟨x1, x2, x3, x4, x5⟩ := h
  exact ⟨by rw [hS 8 (by omega)]; exact x1, by rw [hS 9 (by omega)]; exact x2, by rw [hS 10 (by omega)]; exact x3, by rw [hS 11 (by omega)]; exact x4, by rw [hS 12 (by omega)]; exact x5⟩
end QF
/-- the whole relation -/
noncomputable def RLN (A : Nat → Nat) (S : Nat → aE) (v : Nat → Value) (ai : Nat → Nat → Int32) (al : Nat → Nat → Int64) (en : Nat) : Prop := ∃ tx sp hT tl st sr mn tn ax wh rx fg tu ms mq, qS A S v en tx sp hT tl st ∧ qT A S ai al sr mn tn ∧ qE A S v ai en ax wh rx fg tu ms mq ∧ qJ A S v ai en ax wh ∧ qC A S v ∧ qP A S v ai ∧ qB S v ai tl ∧ qD A S v ∧ qK A S v ai al tx sp hT ∧ qM A S v al ∧ qR A S v ai ∧ fnX A S
noncomputable def isL (k : Nat) : Bool := k == 148 || k == 153 || k == 167 || k == 168
/-- the kind of an answer -/
noncomputable def rTy (k : Nat) (r : Value) : Prop := if isL k = true then ∃ x, r = .long x else ∃ x, r = .int x
theorem rTy_i {k : Nat} {x : Int32} (h : isL k = false) : rTy k (.int x) := by
  unfold rTy
  rw [if_neg (by rw [h]; decide)]
  exact ⟨x, rfl⟩
theorem rTy_l {k : Nat} {x : Int64} (h : isL k = true) : rTy k (.long x) := by
  unfold rTy
  rw [if_pos h]
  exact ⟨x, rfl⟩
/-- a call's step: both answer r, and the relation stays -/
noncomputable def STP (E : aEnv) (c : Nat) (B : aHp) (A : Nat → Nat) (m : Nat) (ma : Nat → Nat) (kx km : Nat) (As : List Value) (S : Nat → aE) (v : Nat → Value) (ai : Nat → Nat → Int32) (al : Nat → Nat → Int64) (en : Nat) : Prop := ∃ r B' S' v' ai' al' en', EV E c kx (.ref (A 0) :: As) (oh E (mh E B m ma v ai al) A S) (some r) (oh E (mh E B' m ma v ai al) A S') ∧ EV E c km (.ref m :: As) (mh E (oh E B' A S') m ma v ai al) (some r) (mh E (oh E B' A S') m ma v' ai' al') ∧ RLN A S' v' ai' al' en' ∧ rTy kx r ∧ ((B' = B ∧ en' = en) ∨ (B' = B ++ dR 11 ∧ en' = en + 1))

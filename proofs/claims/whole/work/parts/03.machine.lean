/-! THE ABSTRACT MACHINE: a function on plain data that runs the resolved code of the tables; part 04 shows that the real machine does what it does. -/
abbrev aE : Type := (Nat × vp_A) ⊕ (Nat × List Value)
abbrev aHp : Type := List aE
abbrev aLs : Type := List (Option Value)
/-- the base of the new cells; the read-only int rows; constants by number; the texts' signs by address -/
abbrev aEnv : Type := Nat × (Nat → Option (Nat × (Nat → Int32))) × (Nat → Option Value) × (Nat → Option (List Int32))
abbrev aG : Type := va_G × (Nat → ClassId)
noncomputable def hg (E : aEnv) (ah : aHp) (q : Nat) : Option aE := if E.1 ≤ q then ah[q - E.1]? else none
noncomputable def hs (E : aEnv) (ah : aHp) (q : Nat) (e : aE) : aHp := if E.1 ≤ q then ah.set (q - E.1) e else ah
noncomputable def sU (f : Int32 → Int32) : List Value → Option (List Value)
  | .int x :: r => some (.int (f x) :: r)
  | _ => none
noncomputable def sB (f : Int32 → Int32 → Int32) : List Value → Option (List Value)
  | .int y :: .int x :: r => some (.int (f x y) :: r)
  | _ => none
noncomputable def sD (f : Int32 → Int32 → Int32) : List Value → Option (List Value)
  | .int y :: .int x :: r => if y = 0 then none else some (.int (f x y) :: r)
  | _ => none
noncomputable def tU (f : Int64 → Int64) : List Value → Option (List Value)
  | .long x :: r => some (.long (f x) :: r)
  | _ => none
noncomputable def tB (f : Int64 → Int64 → Int64) : List Value → Option (List Value)
  | .long y :: .long x :: r => some (.long (f x y) :: r)
  | _ => none
noncomputable def tD (f : Int64 → Int64 → Int64) : List Value → Option (List Value)
  | .long y :: .long x :: r => if y = 0 then none else some (.long (f x y) :: r)
  | _ => none
noncomputable def sC : List Value → Option (List Value)
  | .long y :: .long x :: r => some (.int (lg_cmp x y) :: r)
  | _ => none
noncomputable def sH (f : Int64 → Int32 → Int64) : List Value → Option (List Value)
  | .int y :: .long x :: r => some (.long (f x y) :: r)
  | _ => none
noncomputable def sIL : List Value → Option (List Value)
  | .int x :: r => some (.long x.toInt64 :: r)
  | _ => none
noncomputable def sLI : List Value → Option (List Value)
  | .long x :: r => some (.int x.toInt32 :: r)
  | _ => none
noncomputable def sDup : List Value → Option (List Value)
  | v :: r => if v.category = 1 then some (v :: v :: r) else none
  | _ => none
noncomputable def sPop : List Value → Option (List Value)
  | v :: r => if v.category = 1 then some r else none
  | _ => none
noncomputable def sDup2 : List Value → Option (List Value)
  | .long x :: r => some (.long x :: .long x :: r)
  | v :: w :: r => if v.category = 1 ∧ w.category = 1 then some (v :: w :: v :: w :: r) else none
  | _ => none
/-- what touches the operand stack alone -/
noncomputable def skA (I : Instr) (st : List Value) : Option (List Value) := match I with
  | .iconst v => some (.int (Int32.ofInt v) :: st)
  | .jsr_w v => some (.long (Int64.ofInt v) :: st)
  | .aconst_null => some (.null :: st)
  | .iadd => sB (fun x y => x + y) st
  | .isub => sB (fun x y => x - y) st
  | .imul => sB (fun x y => x * y) st
  | .iand => sB (fun x y => x &&& y) st
  | .ior => sB (fun x y => x ||| y) st
  | .idiv => sD (fun x y => x / y) st
  | .irem => sD (fun x y => x - x / y * y) st
  | .ineg => sU (fun x => -x) st
  | .ishl => sB (fun x y => x <<< (y &&& 31)) st
  | .ishr => sB (fun x y => x >>> (y &&& 31)) st
  | .i2b => sU (fun x => x.toInt8.toInt32) st
  | .i2s => sU (fun x => x.toInt16.toInt32) st
  | .i2l => sIL st
  | .l2i => sLI st
  | .ladd => tB (fun x y => x + y) st
  | .lsub => tB (fun x y => x - y) st
  | .lmul => tB (fun x y => x * y) st
  | .land => tB (fun x y => x &&& y) st
  | .lor => tB (fun x y => x ||| y) st
  | .lxor => tB (fun x y => x ^^^ y) st
  | .ldiv => tD (fun x y => x / y) st
  | .lrem => tD (fun x y => x - x / y * y) st
  | .lneg => tU (fun x => -x) st
  | .lshl => sH (fun x y => x <<< (y.toInt64 &&& 63)) st
  | .lcmp => sC st
  | .dup => sDup st
  | .dup2 => sDup2 st
  | .pop => sPop st
  | _ => none
noncomputable def lI (ls : aLs) (j : Nat) : Option Value := match ls[j]? with
  | some (some (.int x)) => some (.int x)
  | _ => none
noncomputable def lL (ls : aLs) (j : Nat) : Option Value := match ls[j]? with
  | some (some (.long x)) => some (.long x)
  | _ => none
noncomputable def lA (ls : aLs) (j : Nat) : Option Value := match ls[j]? with
  | some (some (.ref a)) => some (.ref a)
  | some (some .null) => some .null
  | _ => none
/-- loads -/
noncomputable def ldA (I : Instr) (ls : aLs) : Option Value := match I with
  | .iload j => lI ls j
  | .lload j => lL ls j
  | .aload j => lA ls j
  | _ => none
noncomputable def kil (o : Option Value) : Option Value := match o with
  | some (.long _) => none
  | some (.double _) => none
  | o => o
noncomputable def stl : aLs → Nat → Value → aLs
  | [], _, _ => []
  | _ :: t, 0, v => some v :: t
  | a :: t, 1, v => kil a :: stl t 0 v
  | a :: t, j + 2, v => a :: stl t (j + 1) v
noncomputable def stl2 : aLs → Nat → Value → aLs
  | [], _, _ => []
  | [_], 0, v => [some v]
  | _ :: _ :: t, 0, v => some v :: none :: t
  | a :: t, 1, v => kil a :: stl2 t 0 v
  | a :: t, j + 2, v => a :: stl2 t (j + 1) v
noncomputable def oI (ls : aLs) (j : Nat) : List Value → Option (aLs × List Value)
  | .int x :: r => if j < ls.length then some (stl ls j (.int x), r) else none
  | _ => none
noncomputable def oL (ls : aLs) (j : Nat) : List Value → Option (aLs × List Value)
  | .long x :: r => if j + 1 < ls.length then some (stl2 ls j (.long x), r) else none
  | _ => none
noncomputable def oA (ls : aLs) (j : Nat) : List Value → Option (aLs × List Value)
  | .ref x :: r => if j < ls.length then some (stl ls j (.ref x), r) else none
  | .null :: r => if j < ls.length then some (stl ls j .null, r) else none
  | _ => none
noncomputable def oC (ls : aLs) (j : Nat) (n : Int) (st : List Value) : Option (aLs × List Value) := match ls[j]? with
  | some (some (.int x)) => some (stl ls j (.int (x + Int32.ofInt n)), st)
  | _ => none
/-- stores -/
noncomputable def soA (I : Instr) (ls : aLs) (st : List Value) : Option (aLs × List Value) := match I with
  | .istore j => oI ls j st
  | .lstore j => oL ls j st
  | .astore j => oA ls j st
  | .iinc j n => oC ls j n st
  | _ => none
noncomputable def j1 (p : Int32 → Prop) [∀ x, Decidable (p x)] (i t : Nat) : List Value → Option (Nat × List Value)
  | .int x :: r => some (if p x then t else i, r)
  | _ => none
noncomputable def j2 (p : Int32 → Int32 → Prop) [∀ x y, Decidable (p x y)] (i t : Nat) : List Value → Option (Nat × List Value)
  | .int y :: .int x :: r => some (if p x y then t else i, r)
  | _ => none
noncomputable def jN (i t : Nat) : List Value → Option (Nat × List Value)
  | .ref _ :: r => some (i, r)
  | .null :: r => some (t, r)
  | _ => none
noncomputable def jT (d lo hi : Int) (offs : Array Int) : List Value → Option (Nat × List Value)
  | .int x :: r => if x.toInt < lo ∨ hi < x.toInt then some (d.toNat, r) else match offs[(x.toInt - lo).toNat]? with
    | some o => some (o.toNat, r)
    | none => none
  | _ => none
/-- jumps; i is the place behind -/
noncomputable def jpA (I : Instr) (i : Nat) (st : List Value) : Option (Nat × List Value) := match I with
  | .goto t => some (t.toNat, st)
  | .ifCond .eq t => j1 (fun x => x = 0) i t.toNat st
  | .ifCond .ne t => j1 (fun x => ¬ x = 0) i t.toNat st
  | .ifCond .lt t => j1 (fun x => x < 0) i t.toNat st
  | .ifCond .ge t => j1 (fun x => 0 ≤ x) i t.toNat st
  | .ifCond .gt t => j1 (fun x => 0 < x) i t.toNat st
  | .ifCond .le t => j1 (fun x => x ≤ 0) i t.toNat st
  | .if_icmp .eq t => j2 (fun x y => x = y) i t.toNat st
  | .if_icmp .ne t => j2 (fun x y => ¬ x = y) i t.toNat st
  | .if_icmp .lt t => j2 (fun x y => x < y) i t.toNat st
  | .if_icmp .ge t => j2 (fun x y => y ≤ x) i t.toNat st
  | .if_icmp .gt t => j2 (fun x y => y < x) i t.toNat st
  | .if_icmp .le t => j2 (fun x y => x ≤ y) i t.toNat st
  | .ifnull t => jN i t.toNat st
  | .ifnonnull t => jN t.toNat i st
  | .tableswitch d lo hi offs => jT d lo hi offs st
  | _ => none
/-- what a field or a row of a kind takes: 0 int, 1 long, 2 a reference, 3 a truth value -/
noncomputable def fitv (t : Nat) (v : Value) : Bool := match v with
  | .int x => t == 0 || (t == 3 && (x == 0 || x == 1))
  | .long _ => t == 1
  | .ref _ => t == 2
  | .null => t == 2
  | _ => false
noncomputable def gF (E : aEnv) (ah : aHp) (n : Nat) : List Value → Option (List Value)
  | .ref a :: r => match hg E ah a with
    | some (.inr (ci, fs)) => if ci = n / 1000 then match fs[n % 1000 / 10]? with
      | some v => some (v :: r)
      | none => none
      else none
    | _ => none
  | _ => none
noncomputable def gI (E : aEnv) (ah : aHp) : List Value → Option (List Value)
  | .int i :: .ref a :: r => match hg E ah a with
    | some (.inl (0, n, .inl f)) => if i < 0 ∨ n ≤ i.toNatClampNeg then none else some (.int (f i.toNatClampNeg) :: r)
    | some _ => none
    | none => match E.2.1 a with
      | some (n, f) => if i < 0 ∨ n ≤ i.toNatClampNeg then none else some (.int (f i.toNatClampNeg) :: r)
      | none => none
  | _ => none
noncomputable def gL (E : aEnv) (ah : aHp) : List Value → Option (List Value)
  | .int i :: .ref a :: r => match hg E ah a with
    | some (.inl (1, n, .inr (.inl f))) => if i < 0 ∨ n ≤ i.toNatClampNeg then none else some (.long (f i.toNatClampNeg) :: r)
    | _ => none
  | _ => none
noncomputable def gB (E : aEnv) (ah : aHp) : List Value → Option (List Value)
  | .int i :: .ref a :: r => match hg E ah a with
    | some (.inl (2, n, .inl f)) => if i < 0 ∨ n ≤ i.toNatClampNeg then none else some (.int (f i.toNatClampNeg) :: r)
    | some (.inl (3, n, .inl f)) => if i < 0 ∨ n ≤ i.toNatClampNeg then none else some (.int (f i.toNatClampNeg) :: r)
    | _ => none
  | _ => none
noncomputable def gA (E : aEnv) (ah : aHp) : List Value → Option (List Value)
  | .int i :: .ref a :: r => match hg E ah a with
    | some (.inl (t, n, .inr (.inr (.inr (.inr f))))) => if t < 4 ∨ 6 < t ∨ i < 0 ∨ n ≤ i.toNatClampNeg then none else some (va_rf (f i.toNatClampNeg) :: r)
    | _ => none
  | _ => none
noncomputable def gN (E : aEnv) (ah : aHp) : List Value → Option (List Value)
  | .ref a :: r => match hg E ah a with
    | some (.inl (t, n, _)) => if 6 < t then none else some (.int (Int32.ofNat n) :: r)
    | some _ => none
    | none => match E.2.1 a with
      | some (n, _) => some (.int (Int32.ofNat n) :: r)
      | none => none
  | _ => none
noncomputable def gC (E : aEnv) (n : Nat) (st : List Value) : Option (List Value) := match E.2.2.1 n with
  | some v => some (v :: st)
  | none => none
noncomputable def gX (E : aEnv) (n : Nat) : List Value → Option (List Value)
  | .ref a :: r => if n = 0 then match E.2.2.2 a with
      | some cs => some (.int (Int32.ofNat cs.length) :: r)
      | none => none
    else none
  | .int i :: .ref a :: r => if n = 1 then match E.2.2.2 a with
      | some cs => if i < 0 ∨ cs.length ≤ i.toNatClampNeg then none else some (.int (cs.getD i.toNatClampNeg 0) :: r)
      | none => none
    else none
  | _ => none
/-- what reads the heap -/
noncomputable def hrA (E : aEnv) (I : Instr) (st : List Value) (ah : aHp) : Option (List Value) := match I with
  | .getfield n => gF E ah n st
  | .iaload => gI E ah st
  | .laload => gL E ah st
  | .baload => gB E ah st
  | .aaload => gA E ah st
  | .arraylength => gN E ah st
  | .getstatic n => gC E n st
  | .ldc n => gC E n st
  | _ => none
noncomputable def pF (E : aEnv) (ah : aHp) (n : Nat) : List Value → Option (List Value × aHp)
  | v :: .ref a :: r => match hg E ah a with
    | some (.inr (ci, fs)) => if ci = n / 1000 ∧ fitv (n % 10) v = true ∧ n % 1000 / 10 < fs.length then some (r, hs E ah a (.inr (ci, fs.set (n % 1000 / 10) v))) else none
    | _ => none
  | _ => none
noncomputable def pI (E : aEnv) (ah : aHp) : List Value → Option (List Value × aHp)
  | .int x :: .int i :: .ref a :: r => match hg E ah a with
    | some (.inl (0, n, .inl f)) => if i < 0 ∨ n ≤ i.toNatClampNeg then none else some (r, hs E ah a (.inl (0, n, .inl (upd f i.toNatClampNeg x))))
    | _ => none
  | _ => none
noncomputable def pL (E : aEnv) (ah : aHp) : List Value → Option (List Value × aHp)
  | .long x :: .int i :: .ref a :: r => match hg E ah a with
    | some (.inl (1, n, .inr (.inl f))) => if i < 0 ∨ n ≤ i.toNatClampNeg then none else some (r, hs E ah a (.inl (1, n, .inr (.inl (vp_updL f i.toNatClampNeg x)))))
    | _ => none
  | _ => none
noncomputable def pB (E : aEnv) (ah : aHp) : List Value → Option (List Value × aHp)
  | .int x :: .int i :: .ref a :: r => match hg E ah a with
    | some (.inl (2, n, .inl f)) => if i < 0 ∨ n ≤ i.toNatClampNeg then none else some (r, hs E ah a (.inl (2, n, .inl (upd f i.toNatClampNeg (vp_nar .byte x)))))
    | some (.inl (3, n, .inl f)) => if i < 0 ∨ n ≤ i.toNatClampNeg then none else some (r, hs E ah a (.inl (3, n, .inl (upd f i.toNatClampNeg (vp_nar .boolean x)))))
    | _ => none
  | _ => none
/-- rows of trays (kind 4) hold objects of class 9, rows of engines (kind 5) of class 2 -/
noncomputable def cO (t : Nat) : Nat := if t = 4 then 9 else 2
noncomputable def pA (E : aEnv) (ah : aHp) : List Value → Option (List Value × aHp)
  | .ref v :: .int i :: .ref a :: r => match hg E ah a, hg E ah v with
    | some (.inl (t, n, .inr (.inr (.inr (.inr f))))), some (.inr (ci, _)) => if t < 4 ∨ 5 < t ∨ ci ≠ cO t ∨ i < 0 ∨ n ≤ i.toNatClampNeg then none else some (r, hs E ah a (.inl (t, n, .inr (.inr (.inr (.inr (va_up f i.toNatClampNeg (some v))))))))
    | _, _ => none
  | _ => none
/-- the most cells, and the most places of one cell -/
noncomputable def lim : Nat := 1000
noncomputable def wid : Nat := 5000
noncomputable def aZ (t n : Nat) : vp_A := match t with
  | 1 => (n, .inr (.inl (fun _ => 0)))
  | 0 => (n, .inl (fun _ => 0))
  | 2 => (n, .inl (fun _ => 0))
  | 3 => (n, .inl (fun _ => 0))
  | _ => (n, .inr (.inr (.inr (.inr (fun _ => none)))))
noncomputable def nR (E : aEnv) (ah : aHp) (t : Nat) : List Value → Option (List Value × aHp)
  | .int n :: r => if n < 0 ∨ wid < n.toNatClampNeg ∨ lim ≤ ah.length then none else some (.ref (E.1 + ah.length) :: r, ah ++ [.inl (t, aZ t n.toNatClampNeg)])
  | _ => none
/-- what a new object of a class holds -/
noncomputable def dfl (ci : Nat) : List Value := match vwCl[ci]? with
  | some q => (List.range q.2.2).map fun k => match parseFieldDescriptor (q.2.1 k).2.2.1 with
    | some ty => defaultValue ty
    | none => .null
  | none => []
noncomputable def nO (E : aEnv) (ah : aHp) (ci : Nat) (st : List Value) : Option (List Value × aHp) :=
  if 11 < ci ∨ lim ≤ ah.length then none else some (.ref (E.1 + ah.length) :: st, ah ++ [.inr (ci, dfl ci)])
/-- new int[n][m]: the outer row, then its rows -/
noncomputable def nM (E : aEnv) (ah : aHp) : List Value → Option (List Value × aHp)
  | .int m :: .int n :: r => if n < 0 ∨ m < 0 ∨ wid < n.toNatClampNeg ∨ wid < m.toNatClampNeg ∨ lim < ah.length + n.toNatClampNeg + 1 then none
      else some (.ref (E.1 + ah.length) :: r, ah ++ .inl (6, n.toNatClampNeg, .inr (.inr (.inr (.inr (fun j => if j < n.toNatClampNeg then some (E.1 + ah.length + 1 + j) else none))))) :: List.replicate n.toNatClampNeg (.inl (0, m.toNatClampNeg, .inl (fun _ => 0))))
  | _ => none
/-- System.arraycopy of ints or of longs -/
noncomputable def cY (E : aEnv) (ah : aHp) : List Value → Option (List Value × aHp)
  | .int n :: .int dp :: .ref d :: .int sp :: .ref s :: r => match hg E ah s, hg E ah d with
    | some (.inl (0, n0, .inl f)), some (.inl (0, n1, .inl g)) => if sp < 0 ∨ dp < 0 ∨ n < 0 ∨ n0 < sp.toNatClampNeg + n.toNatClampNeg ∨ n1 < dp.toNatClampNeg + n.toNatClampNeg then none
        else some (r, hs E ah d (.inl (0, n1, .inl (va_cpy f g sp.toNatClampNeg dp.toNatClampNeg n.toNatClampNeg))))
    | some (.inl (1, n0, .inr (.inl f))), some (.inl (1, n1, .inr (.inl g))) => if sp < 0 ∨ dp < 0 ∨ n < 0 ∨ n0 < sp.toNatClampNeg + n.toNatClampNeg ∨ n1 < dp.toNatClampNeg + n.toNatClampNeg then none
        else some (r, hs E ah d (.inl (1, n1, .inr (.inl (va_cpy f g sp.toNatClampNeg dp.toNatClampNeg n.toNatClampNeg)))))
    | _, _ => none
  | _ => none
noncomputable def oO : List Value → Option (List Value)
  | .ref _ :: r => some r
  | _ => none
noncomputable def tagOf (t : ArrayType) : Nat := match newarray.typeOf t with
  | .int => 0
  | .long => 1
  | .byte => 2
  | .boolean => 3
  | _ => 99
/-- what writes the heap -/
noncomputable def hwA (E : aEnv) (I : Instr) (st : List Value) (ah : aHp) : Option (List Value × aHp) := match I with
  | .putfield n => pF E ah n st
  | .iastore => pI E ah st
  | .lastore => pL E ah st
  | .bastore => pB E ah st
  | .aastore => pA E ah st
  | .newarray t => if tagOf t = 99 then none else nR E ah (tagOf t) st
  | .anewarray t => if t = 4 ∨ t = 5 then nR E ah t st else none
  | .new ci => nO E ah ci st
  | .multianewarray 6 2 => nM E ah st
  | _ => none
/-- what needs a frame of its own, but is no method of the tables: a text's length and signs, arraycopy, Object's own beginning -/
noncomputable def xtA (E : aEnv) (I : Instr) (st : List Value) (ah : aHp) : Option (List Value × aHp) := match I with
  | .ldc_w 0 => (gX E 0 st).map fun r => (r, ah)
  | .ldc_w 1 => (gX E 1 st).map fun r => (r, ah)
  | .ldc_w 2 => cY E ah st
  | .ldc_w 4 => (oO st).map fun r => (r, ah)
  | _ => none
noncomputable def rtA (I : Instr) (st : List Value) : Option (Option Value) := match I, st with
  | .ireturn, [.int x] => some (some (.int x))
  | .freturn, [.int x] => if x = 0 ∨ x = 1 then some (some (.int x)) else none
  | .lreturn, [.long x] => some (some (.long x))
  | .areturn, [.ref x] => some (some (.ref x))
  | .areturn, [.null] => some (some .null)
  | .return_, [] => some none
  | _, _ => none
noncomputable def mrow (k : Nat) : MethodName × ByteArray × Nat × Option FieldType × Nat × Nat := (mtab[k]?).getD (⟨"", "", ""⟩, ⟨#[]⟩, 0, none, 0, 99)
noncomputable def lk {α : Type} (xs : List ((Nat × Nat) × α)) (c i : Nat) : Option α := (xs.find? fun q => q.1.1 == c && q.1.2 == i).map fun q => q.2
/-- a field is final -/
noncomputable def pfin (ci f : Nat) : Bool := match vwCl[ci]? with
  | some r => (r.2.1 f).2.2.2
  | none => true
noncomputable def mkd (n : Nat) : Nat := (mkds[n]?).getD 9
noncomputable def ap (pc : Nat) (o : Int) : Option Int := if 0 ≤ (pc : Int) + o then some ((pc : Int) + o) else none
/-- an instruction, resolved: entries of the pool by numbers of ours, jumps by where they go -/
noncomputable def rsv (k pc : Nat) (raw : Instr) : Option Instr := match raw with
  | .iload_n j => some (.iload j)
  | .lload_n j => some (.lload j)
  | .aload_n j => some (.aload j)
  | .istore_n j => some (.istore j)
  | .lstore_n j => some (.lstore j)
  | .astore_n j => some (.astore j)
  | .iload j => some (.iload j)
  | .lload j => some (.lload j)
  | .aload j => some (.aload j)
  | .istore j => some (.istore j)
  | .lstore j => some (.lstore j)
  | .astore j => some (.astore j)
  | .iinc j n => some (.iinc j n)
  | .iconst n => some (.iconst n)
  | .bipush n => some (.iconst (Int8.ofInt n).toInt32.toInt)
  | .sipush n => some (.iconst (Int16.ofInt n).toInt32.toInt)
  | .lconst n => some (.jsr_w (n : Nat))
  | .ldc2_w x => (lk CJs (mrow k).2.2.2.2.2 x).map .jsr_w
  | .ldc x => match lk CIs (mrow k).2.2.2.2.2 x with
    | some v => some (.iconst v)
    | none => match STs.findIdx? (fun q => q.1.1 == (mrow k).2.2.2.2.2 && q.1.2 == x) with
      | some j => some (.ldc (100 + j))
      | none => none
  | .goto o => (ap pc o).map .goto
  | .ifCond c o => (ap pc o).map fun t => .ifCond c t
  | .if_icmp c o => (ap pc o).map fun t => .if_icmp c t
  | .ifnull o => (ap pc o).map .ifnull
  | .ifnonnull o => (ap pc o).map .ifnonnull
  | .tableswitch d lo hi offs => if (0 ≤ (pc : Int) + d) ∧ offs.toList.all (fun o => decide (0 ≤ (pc : Int) + o)) = true then some (.tableswitch ((pc : Int) + d) lo hi (offs.map fun o => (pc : Int) + o)) else none
  | .getfield x => (lk FLs (mrow k).2.2.2.2.2 x).map fun q => .getfield (1000 * q.1 + 10 * q.2.1 + q.2.2.1)
  | .putfield x => match lk FLs (mrow k).2.2.2.2.2 x with
    | some q => if pfin q.1 q.2.1 = false ∨ ((mrow k).1.name = "<init>" ∧ q.1 = (mrow k).2.2.2.2.2 ∧ q.2.2.2 = false) then some (.putfield (1000 * q.1 + 10 * q.2.1 + q.2.2.1)) else none
    | none => none
  | .getstatic x => (lk SLs (mrow k).2.2.2.2.2 x).map .getstatic
  | .new x => (lk CLs (mrow k).2.2.2.2.2 x).map .new
  | .anewarray x => match lk CLs (mrow k).2.2.2.2.2 x with
    | some 9 => some (.anewarray 4)
    | some 2 => some (.anewarray 5)
    | _ => none
  | .multianewarray 19 2 => if (mrow k).2.2.2.2.2 = 3 then some (.multianewarray 6 2) else none
  | .invokestatic x => match lk XLs (mrow k).2.2.2.2.2 x with
    | some 2 => some (.ldc_w 2)
    | some _ => none
    | none => match lk MLs (mrow k).2.2.2.2.2 x with
      | some q => if mkd q.1 = 0 then some (.invokestatic q.1) else none
      | none => none
  | .invokevirtual x => match lk XLs (mrow k).2.2.2.2.2 x with
    | some 0 => some (.ldc_w 0)
    | some 1 => some (.ldc_w 1)
    | some _ => none
    | none => match lk MLs (mrow k).2.2.2.2.2 x with
      | some q => if mkd q.1 = 1 then some (.invokevirtual q.1) else none
      | none => none
  | .invokespecial x => match lk XLs (mrow k).2.2.2.2.2 x with
    | some 4 => some (.ldc_w 4)
    | some _ => none
    | none => match lk MLs (mrow k).2.2.2.2.2 x with
      | some q => if mkd q.1 = 2 then some (.invokespecial q.1) else none
      | none => none
  | .ireturn => if (mrow k).2.2.2.1 = some .int then some .ireturn else if (mrow k).2.2.2.1 = some .boolean then some .freturn else none
  | .lreturn => if (mrow k).2.2.2.1 = some .long then some .lreturn else none
  | .areturn => match (mrow k).2.2.2.1 with
    | some (.object _) => some .areturn
    | some (.array _) => some .areturn
    | _ => none
  | .return_ => if (mrow k).2.2.2.1 = none then some .return_ else none
  | .newarray t => some (.newarray t)
  | .aconst_null => some .aconst_null
  | .iadd => some .iadd
  | .isub => some .isub
  | .imul => some .imul
  | .iand => some .iand
  | .ior => some .ior
  | .idiv => some .idiv
  | .irem => some .irem
  | .ineg => some .ineg
  | .ishl => some .ishl
  | .ishr => some .ishr
  | .i2b => some .i2b
  | .i2s => some .i2s
  | .i2l => some .i2l
  | .l2i => some .l2i
  | .ladd => some .ladd
  | .lsub => some .lsub
  | .lmul => some .lmul
  | .land => some .land
  | .lor => some .lor
  | .lxor => some .lxor
  | .ldiv => some .ldiv
  | .lrem => some .lrem
  | .lneg => some .lneg
  | .lshl => some .lshl
  | .lcmp => some .lcmp
  | .dup => some .dup
  | .dup2 => some .dup2
  | .pop => some .pop
  | .iaload => some .iaload
  | .laload => some .laload
  | .baload => some .baload
  | .aaload => some .aaload
  | .iastore => some .iastore
  | .lastore => some .lastore
  | .bastore => some .bastore
  | .aastore => some .aastore
  | .arraylength => some .arraylength
  | _ => none
/-- an instruction's length; 0: any -/
noncomputable def lnI (raw : Instr) : Nat := match raw with
  | .iload _ => 2
  | .lload _ => 2
  | .aload _ => 2
  | .istore _ => 2
  | .lstore _ => 2
  | .astore _ => 2
  | .bipush _ => 2
  | .ldc _ => 2
  | .newarray _ => 2
  | .iinc _ _ => 3
  | .sipush _ => 3
  | .ldc2_w _ => 3
  | .goto _ => 3
  | .ifCond _ _ => 3
  | .if_icmp _ _ => 3
  | .ifnull _ => 3
  | .ifnonnull _ => 3
  | .getfield _ => 3
  | .putfield _ => 3
  | .getstatic _ => 3
  | .new _ => 3
  | .anewarray _ => 3
  | .invokestatic _ => 3
  | .invokevirtual _ => 3
  | .invokespecial _ => 3
  | .multianewarray _ _ => 4
  | .tableswitch _ _ _ _ => 0
  | _ => 1
/-- the instruction at a place, and where the next one stands -/
noncomputable def insAt (k pc : Nat) : Option (Instr × Nat) := match decode (mrow k).2.1 pc with
  | .ok (raw, n) => if n = lnI raw ∨ lnI raw = 0 then (rsv k pc raw).map fun I => (I, pc + n) else none
  | .error _ => none
/-- the locals with which a method begins -/
noncomputable def exL : List Value → aLs
  | [] => []
  | v :: r => if v.category = 2 then some v :: none :: exL r else some v :: exL r
noncomputable def entL (n : Nat) (As : List Value) : aLs := exL As ++ List.replicate (n - (exL As).length) none
/-- a call: the method, and how: 0 of a class, 1 of an object, 2 of a new object -/
noncomputable def clA (I : Instr) : Option (Nat × Nat) := match I with
  | .invokestatic n => some (n, 0)
  | .invokevirtual n => some (n, 1)
  | .invokespecial n => some (n, 2)
  | _ => none
/-- the receiver is what the method's class asks for -/
noncomputable def rcv (E : aEnv) (ah : aHp) (n h : Nat) (As : List Value) : Bool := match h, As with
  | 0, _ => true
  | 1, .ref a :: _ => match hg E ah a with
    | some (.inr (ci, _)) => ci == (mrow n).2.2.2.2.2
    | _ => false
  | 2, .ref _ :: _ => true
  | _, _ => false
/-- the frames that it needs -/
noncomputable def dpt (I : Instr) : Nat := match I with
  | .ldc_w 0 => 6
  | .ldc_w 1 => 6
  | _ => 1
noncomputable def wds (st : List Value) : Nat := (st.map fun v => v.category).sum
noncomputable def st1 (E : aEnv) (I : Instr) (i : Nat) (ls : aLs) (st : List Value) (ah : aHp) : Option (Nat × aLs × List Value × aHp) :=
  match skA I st with
  | some st' => some (i, ls, st', ah)
  | none => match ldA I ls with
    | some v => some (i, ls, v :: st, ah)
    | none => match soA I ls st with
      | some q => some (i, q.1, q.2, ah)
      | none => match jpA I i st with
        | some q => some (q.1, ls, q.2, ah)
        | none => match hrA E I st ah with
          | some st' => some (i, ls, st', ah)
          | none => match hwA E I st ah with
            | some q => some (i, ls, q.1, q.2)
            | none => none
/-- a call can be made: enough values, the receiver, little enough below, locals enough -/
noncomputable def cok (E : aEnv) (ah : aHp) (n h : Nat) (st : List Value) : Bool := decide ((mrow n).2.2.2.2.1 ≤ st.length) && rcv E ah n h (st.take (mrow n).2.2.2.2.1).reverse &&
  (decide (wds (st.drop (mrow n).2.2.2.2.1) ≤ 8) && decide ((exL (st.take (mrow n).2.2.2.2.1).reverse).length ≤ (mrow n).2.2.1))
/-- the run: fuel, depth of calls left, method, place, locals, stack, heap -/
noncomputable def rn (E : aEnv) : Nat → Nat → Nat → Nat → aLs → List Value → aHp → Option (Option Value × aHp)
  | 0, _, _, _, _, _, _ => none
  | f + 1, c, k, i, ls, st, ah => match insAt k i with
    | none => none
    | some J => match rtA J.1 st with
      | some r => some (r, ah)
      | none => match clA J.1 with
        | some q => match c with
          | 0 => none
          | c' + 1 => if cok E ah q.1 q.2 st = true then match rn E f c' q.1 0 (entL (mrow q.1).2.2.1 (st.take (mrow q.1).2.2.2.2.1).reverse) [] ah with
              | none => none
              | some z => rn E f (c' + 1) k J.2 ls (z.1.toList ++ st.drop (mrow q.1).2.2.2.2.1) z.2
            else none
        | none => match xtA E J.1 st ah with
          | some q => if c < dpt J.1 ∨ 8 < wds q.1 then none else rn E f c k J.2 ls q.1 q.2
          | none => match st1 E J.1 J.2 ls st ah with
            | none => none
            | some z => rn E f c k z.1 z.2.1 z.2.2.1 z.2.2.2

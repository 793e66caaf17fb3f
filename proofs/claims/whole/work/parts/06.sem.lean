/-! THE ABSTRACT MACHINE: the statement's bytecode run on a heap of numbered cells. Cells 0 .. 7 are old ones, never written: 0 the script, 1 MOST_OF, 2 3 4 the String constants, 5 6 7 their bytes. -/
abbrev AC : Type := (Nat × vp_A) ⊕ (Nat × List Value)
abbrev Hp : Type := Nat × Nat × (Nat → AC)
abbrev Lo : Type := List (Nat × Value)
abbrev Cf : Type := Nat × Lo × List Value × Hp
abbrev Rs : Type := Option Value × Hp
/-- a local, by its number -/
def lk : Lo → Nat → Option Value
  | [], _ => none
  | (j, v) :: r, i => if j = i then some v else lk r i
def rm1 (i : Nat) (l : Lo) : Lo := l.filter (fun q => !(q.1 == i) && !(q.1 + 1 == i && q.2.category == 2))
def rm2 (i : Nat) (l : Lo) : Lo := l.filter (fun q => !(q.1 == i) && (!(q.1 == i + 1) && !(q.1 + 1 == i && q.2.category == 2)))
/-- tables, read -/
def fl (o idx : Nat) : Option (Nat × Nat × Nat) := (ftb.find? (fun e => e.1 == o && e.2.1 == idx)).map (fun e => e.2.2)
def ml (o idx : Nat) : Option (Nat × Nat × Nat × Nat) := (mtb.find? (fun e => e.1 == o && e.2.1 == idx)).map (fun e => e.2.2)
def cl_ (o idx : Nat) : Option (Nat × Nat × Nat × Nat) := (ctb.find? (fun e => e.1 == o && e.2.1 == idx)).map (fun e => e.2.2)
def kl (o idx : Nat) : Option (Int32 × Nat) := (ktb.find? (fun e => e.1 == o && e.2.1 == idx)).map (fun e => e.2.2)
def ll (o idx : Nat) : Option (Int64 × Nat) := (ltb.find? (fun e => e.1 == o && e.2.1 == idx)).map (fun e => e.2.2)
def gl (o idx : Nat) : Option (Nat × Nat × Nat) := (gtb.find? (fun e => e.1 == o && e.2.1 == idx)).map (fun e => e.2.2)
def sl (o idx : Nat) : Option Nat := if o = 6 then (if idx = 70 then some 2 else if idx = 72 then some 3 else if idx = 74 then some 4 else none) else none
/-- cells: fields -/
def gf : AC → Nat → Nat → Option Value
  | .inr (c, fs), ci, k => if c = ci then fs[k]? else none
  | _, _, _ => none
def pf : AC → Nat → Nat → Value → Option AC
  | .inr (c, fs), ci, k, v => if c = ci ∧ k < fs.length then some (.inr (c, fs.set k v)) else none
  | _, _, _, _ => none
/-- cells: arrays (0 char, 1 int, 2 long, 3 references to States, 4 old bytes, 5 old ints) -/
def rdi (t : Nat) : AC → Int32 → Option Int32
  | .inl (t', n, .inl f), i => if (t' = t ∨ (t = 1 ∧ t' = 5)) ∧ 0 ≤ i ∧ i.toNatClampNeg < n then some (f i.toNatClampNeg) else none
  | _, _ => none
def wri (t : Nat) : AC → Int32 → Int32 → Option AC
  | .inl (t', n, .inl f), i, x => if t' = t ∧ 0 ≤ i ∧ i.toNatClampNeg < n then some (.inl (t', n, .inl (upd f i.toNatClampNeg x))) else none
  | _, _, _ => none
def rdl : AC → Int32 → Option Int64
  | .inl (t', n, .inr (.inl f)), i => if t' = 2 ∧ 0 ≤ i ∧ i.toNatClampNeg < n then some (f i.toNatClampNeg) else none
  | _, _ => none
def wrl : AC → Int32 → Int64 → Option AC
  | .inl (t', n, .inr (.inl f)), i, x => if t' = 2 ∧ 0 ≤ i ∧ i.toNatClampNeg < n then some (.inl (t', n, .inr (.inl (vp_updL f i.toNatClampNeg x)))) else none
  | _, _, _ => none
def rdr : AC → Int32 → Option (Option Nat)
  | .inl (t', n, .inr (.inr (.inr (.inr f)))), i => if t' = 3 ∧ 0 ≤ i ∧ i.toNatClampNeg < n then some (f i.toNatClampNeg) else none
  | _, _ => none
/-- an object of class ci -/
def isO : AC → Nat → Bool
  | .inr (c, _), ci => decide (c = ci)
  | _, _ => false
def wrr : AC → Int32 → Nat → Option AC
  | .inl (t', n, .inr (.inr (.inr (.inr f)))), i, v => if t' = 3 ∧ 0 ≤ i ∧ i.toNatClampNeg < n then some (.inl (t', n, .inr (.inr (.inr (.inr (va_up f i.toNatClampNeg (some v))))))) else none
  | _, _, _ => none
def aln : AC → Option Int32
  | .inl (t, n, .inl _) => if t < 6 then some (Int32.ofNat n) else none
  | .inl (t, n, .inr (.inl _)) => if t = 2 then some (Int32.ofNat n) else none
  | .inl (t, n, .inr (.inr (.inr (.inr _)))) => if t = 3 then some (Int32.ofNat n) else none
  | _ => none
def acp : AC → AC → Int32 → Int32 → Int32 → Option AC
  | .inl (t0, n0, .inl f), .inl (t1, n1, .inl g), sp, dp, n => if t0 = 1 ∧ t1 = 1 ∧ 0 ≤ sp ∧ 0 ≤ dp ∧ 0 ≤ n ∧ sp.toNatClampNeg + n.toNatClampNeg ≤ n0 ∧ dp.toNatClampNeg + n.toNatClampNeg ≤ n1 then some (.inl (t1, n1, .inl (va_cpy f g sp.toNatClampNeg dp.toNatClampNeg n.toNatClampNeg))) else none
  | _, _, _, _, _ => none
def nwa : ArrayType → Nat → Option AC
  | .char, n => some (.inl (0, n, .inl (fun _ => 0)))
  | .int, n => some (.inl (1, n, .inl (fun _ => 0)))
  | .long, n => some (.inl (2, n, .inr (.inl (fun _ => 0))))
  | _, _ => none
/-- a value that a field takes as it is -/
def fitV (ty : FieldType) : Value → Bool
  | .int x => decide (narrow ty (.int x) = .int x) && fits ty (.int x)
  | .long x => fits ty (.long x)
  | .null => fits ty .null
  | .ref a => fits ty (.ref a)
  | _ => false
abbrev Ot : Type := Option (Cf ⊕ Rs)
def nx (pc : Nat) (l : Lo) (st : List Value) (h : Hp) : Ot := some (.inl (pc, l, st, h))
def ibin (pc : Nat) (l : Lo) (h : Hp) (g : Int32 → Int32 → Option Int32) : List Value → Ot
  | .int y :: .int x :: r => (g x y).bind fun v => nx (pc + 1) l (.int v :: r) h
  | _ => none
def lbin (pc : Nat) (l : Lo) (h : Hp) (g : Int64 → Int64 → Option Int64) : List Value → Ot
  | .long y :: .long x :: r => (g x y).bind fun v => nx (pc + 1) l (.long v :: r) h
  | _ => none
def iun (pc : Nat) (l : Lo) (h : Hp) (g : Int32 → Value) : List Value → Ot
  | .int x :: r => nx (pc + 1) l (g x :: r) h
  | _ => none
def jmp (pc : Nat) (off : Int) : Option Nat := if 0 ≤ (pc : Int) + off then some ((pc : Int) + off).toNat else none
def ibr1 (pc : Nat) (off : Int) (l : Lo) (h : Hp) (g : Int32 → Bool) : List Value → Ot
  | .int x :: r => (jmp pc off).bind fun t => if g x = true then nx t l r h else nx (pc + 3) l r h
  | _ => none
def ibr2 (pc : Nat) (off : Int) (l : Lo) (h : Hp) (g : Int32 → Int32 → Bool) : List Value → Ot
  | .int y :: .int x :: r => (jmp pc off).bind fun t => if g x y = true then nx t l r h else nx (pc + 3) l r h
  | _ => none
def c1 : ClassFile.Cond → Int32 → Bool
  | .eq, x => decide (x = 0)
  | .ne, x => decide (¬ x = 0)
  | .lt, x => decide (x < 0)
  | .ge, x => decide (0 ≤ x)
  | .gt, x => decide (0 < x)
  | .le, x => decide (x ≤ 0)
def c2 : ClassFile.Cond → Int32 → Int32 → Bool
  | .eq, x, y => decide (x = y)
  | .ne, x, y => decide (¬ x = y)
  | .lt, x, y => decide (x < y)
  | .ge, x, y => decide (y ≤ x)
  | .gt, x, y => decide (y < x)
  | .le, x, y => decide (x ≤ y)
def ildv (pc : Nat) (l : Lo) (st : List Value) (h : Hp) (i : Nat) : Ot := (lk l i).bind fun v => match v with
  | .int x => nx pc l (.int x :: st) h
  | _ => none
def lldv (pc : Nat) (l : Lo) (st : List Value) (h : Hp) (i : Nat) : Ot := (lk l i).bind fun v => match v with
  | .long x => nx pc l (.long x :: st) h
  | _ => none
def aldv (pc : Nat) (l : Lo) (st : List Value) (h : Hp) (i : Nat) : Ot := (lk l i).bind fun v => match v with
  | .ref x => nx pc l (.ref x :: st) h
  | _ => none
def istv (nL pc : Nat) (l : Lo) (h : Hp) (i : Nat) : List Value → Ot
  | .int x :: r => if i < nL then nx pc ((i, .int x) :: rm1 i l) r h else none
  | _ => none
def lstv (nL pc : Nat) (l : Lo) (h : Hp) (i : Nat) : List Value → Ot
  | .long x :: r => if i + 1 < nL then nx pc ((i, .long x) :: rm2 i l) r h else none
  | _ => none
def astv (nL pc : Nat) (l : Lo) (h : Hp) (i : Nat) : List Value → Ot
  | .ref x :: r => if i < nL then nx pc ((i, .ref x) :: rm1 i l) r h else none
  | _ => none
def up (f : Nat → AC) (a : Nat) (c : AC) : Nat → AC := va_up f a c
/-- the words of values -/
def ctw : List Value → Nat
  | [] => 0
  | v :: r => v.category + ctw r
/-- the calls: 'call y args heap' -/
def calls (call : Nat → List Value → Hp → Option Rs) (kind y n pc : Nat) (l : Lo) (st : List Value) (h : Hp) : Ot :=
  match kind with
  | 6 => match st with
    | .int n :: .int dp :: .ref a :: .int sp :: .ref a0 :: r => if ctw r ≤ 8 then (acp (h.2.2 a0) (h.2.2 a) sp dp n).bind fun c => nx (pc + 3) l r (h.1, h.2.1, up h.2.2 a c) else none
    | _ => none
  | 7 => match st with
    | .ref a :: r => if ctw r ≤ 8 then nx (pc + 3) l r h else none
    | _ => none
  | _ =>
    let q := if kind = 1 ∨ kind = 5 then n else n + 1
    if q ≤ st.length ∧ ctw (st.drop q) ≤ 8 then (call y (st.take q).reverse h).bind fun o => nx (pc + 3) l (o.1.toList ++ st.drop q) o.2 else none
/-- what kind of call an instruction may be -/
def okV (k : Nat) : Bool := k = 0 || k = 4
def okS (k : Nat) : Bool := k = 1 || k = 5 || k = 6
def okI (k : Nat) : Bool := k = 2 || k = 3 || k = 7
/-- a receiver that is there, of a class -/
def rcv (h : Hp) (y n : Nat) (st : List Value) : Bool := match (st[n]?), MT[y]? with
  | some (.ref a), some e => match h.2.2 a with
    | .inr (c, _) => decide (c = (if e.2.1 = 15 then 13 else e.2.1)) && !(e.2.1 == 13)
    | _ => false
  | _, _ => false
/-- a receiver that is there, of any class -/
def rfr (n : Nat) (st : List Value) : Bool := match st[n]? with
  | some (.ref _) => true
  | _ => false
def opq : Value := .retAddr 0
/-- one instruction: own class, what is returned, whether it is a constructor, how many locals -/
def istep (call : Nat → List Value → Hp → Option Rs) (o : Nat) (rt : Option FieldType) (ini : Bool) (nL : Nat) (len pc : Nat) (l : Lo) (st : List Value) (h : Hp) : Instr → Ot
  | .aload i => if len = 2 then aldv (pc + 2) l st h i else none
  | .aload_n i => if len = 1 then aldv (pc + 1) l st h i else none
  | .iload i => if len = 2 then ildv (pc + 2) l st h i else none
  | .iload_n i => if len = 1 then ildv (pc + 1) l st h i else none
  | .lload i => if len = 2 then lldv (pc + 2) l st h i else none
  | .lload_n i => if len = 1 then lldv (pc + 1) l st h i else none
  | .astore i => if len = 2 then astv nL (pc + 2) l h i st else none
  | .astore_n i => if len = 1 then astv nL (pc + 1) l h i st else none
  | .istore i => if len = 2 then istv nL (pc + 2) l h i st else none
  | .istore_n i => if len = 1 then istv nL (pc + 1) l h i st else none
  | .lstore i => if len = 2 then lstv nL (pc + 2) l h i st else none
  | .lstore_n i => if len = 1 then lstv nL (pc + 1) l h i st else none
  | .iinc i n => if len = 3 ∧ i < nL then (lk l i).bind (fun v => match v with
      | .int x => nx (pc + 3) ((i, .int (x + Int32.ofInt n)) :: rm1 i l) st h
      | _ => none) else none
  | .iconst n => if len = 1 then nx (pc + 1) l (.int (Int32.ofInt n) :: st) h else none
  | .bipush n => if len = 2 then nx (pc + 2) l (.int (Int8.ofInt n).toInt32 :: st) h else none
  | .sipush n => if len = 3 then nx (pc + 3) l (.int (Int16.ofInt n).toInt32 :: st) h else none
  | .lconst n => if len = 1 then nx (pc + 1) l (.long (Int64.ofNat (n : Nat)) :: st) h else none
  | .ldc idx => if len = 2 then (match kl o idx with
      | some q => nx (pc + 2) l (.int q.1 :: st) h
      | none => (sl o idx).bind fun a => nx (pc + 2) l (.ref a :: st) h) else none
  | .ldc_w idx => if len = 3 then (kl o idx).bind (fun q => nx (pc + 3) l (.int q.1 :: st) h) else none
  | .ldc2_w idx => if len = 3 then (ll o idx).bind (fun q => nx (pc + 3) l (.long q.1 :: st) h) else none
  | .iadd => if len = 1 then ibin pc l h (fun x y => some (x + y)) st else none
  | .isub => if len = 1 then ibin pc l h (fun x y => some (x - y)) st else none
  | .imul => if len = 1 then ibin pc l h (fun x y => some (x * y)) st else none
  | .iand => if len = 1 then ibin pc l h (fun x y => some (x &&& y)) st else none
  | .ior => if len = 1 then ibin pc l h (fun x y => some (x ||| y)) st else none
  | .ixor => if len = 1 then ibin pc l h (fun x y => some (x ^^^ y)) st else none
  | .idiv => if len = 1 then ibin pc l h (fun x y => if y = 0 then none else some (x / y)) st else none
  | .irem => if len = 1 then ibin pc l h (fun x y => if y = 0 then none else some (x - x / y * y)) st else none
  | .ishl => if len = 1 then ibin pc l h (fun x y => some (x <<< (y &&& 31))) st else none
  | .ishr => if len = 1 then ibin pc l h (fun x y => some (x >>> (y &&& 31))) st else none
  | .iushr => if len = 1 then ibin pc l h (fun x y => some (x.toUInt32 >>> (y.toUInt32 &&& Int32.toUInt32 31)).toInt32) st else none
  | .ineg => if len = 1 then iun pc l h (fun x => .int (-x)) st else none
  | .i2l => if len = 1 then iun pc l h (fun x => .long x.toInt64) st else none
  | .i2c => if len = 1 then iun pc l h (fun x => .int (x.toUInt32 % 65536).toInt32) st else none
  | .l2i => if len = 1 then (match st with
      | .long x :: r => nx (pc + 1) l (.int x.toInt32 :: r) h
      | _ => none) else none
  | .ladd => if len = 1 then lbin pc l h (fun x y => some (x + y)) st else none
  | .lsub => if len = 1 then lbin pc l h (fun x y => some (x - y)) st else none
  | .lmul => if len = 1 then lbin pc l h (fun x y => some (x * y)) st else none
  | .land => if len = 1 then lbin pc l h (fun x y => some (x &&& y)) st else none
  | .ldiv => if len = 1 then lbin pc l h (fun x y => if y = 0 then none else some (x / y)) st else none
  | .lrem => if len = 1 then lbin pc l h (fun x y => if y = 0 then none else some (x - x / y * y)) st else none
  | .lcmp => if len = 1 then (match st with
      | .long y :: .long x :: r => nx (pc + 1) l (.int (lg_cmp x y) :: r) h
      | _ => none) else none
  | .dup => if len = 1 then (match st with
      | v :: r => if v.category = 1 then nx (pc + 1) l (v :: v :: r) h else none
      | _ => none) else none
  | .pop => if len = 1 then (match st with
      | v :: r => if v.category = 1 then nx (pc + 1) l r h else none
      | _ => none) else none
  | .dup_x1 => if len = 1 then (match st with
      | v :: w :: r => if v.category = 1 ∧ w.category = 1 then nx (pc + 1) l (v :: w :: v :: r) h else none
      | _ => none) else none
  | .dup_x2 => if len = 1 then (match st with
      | v :: w :: u :: r => if v.category = 1 ∧ w.category = 1 ∧ u.category = 1 then nx (pc + 1) l (v :: w :: u :: v :: r) h else none
      | _ => none) else none
  | .dup2 => if len = 1 then (match st with
      | v :: w :: r => if v.category = 1 ∧ w.category = 1 then nx (pc + 1) l (v :: w :: v :: w :: r) h else none
      | _ => none) else none
  | .ifCond c off => if len = 3 then ibr1 pc off l h (c1 c) st else none
  | .if_icmp c off => if len = 3 then ibr2 pc off l h (c2 c) st else none
  | .goto off => if len = 3 then (jmp pc off).bind (fun t => nx t l st h) else none
  | .tableswitch d lo hi offs => (match st with
      | .int x :: r => (if x.toInt < lo ∨ hi < x.toInt then jmp pc d else (offs[(x.toInt - lo).toNat]?).bind (fun off => jmp pc off)).bind fun t => nx t l r h
      | _ => none)
  | .lookupswitch d ps => (match st with
      | .int x :: r => if (ps.toList.zip (ps.toList.drop 1)).all (fun (a, next) => a.1 < next.1) = true then (jmp pc (Op.lookupswitch.offset ps.toList d x.toInt)).bind (fun t => nx t l r h) else none
      | _ => none)
  | .getfield idx => if len = 3 then (match st with
      | .ref a :: r => (fl o idx).bind fun q => (gf (h.2.2 a) q.1 q.2.1).bind fun v => nx (pc + 3) l (v :: r) h
      | _ => none) else none
  | .putfield idx => if len = 3 then (match st with
      | v :: .ref a :: r => (fl o idx).bind fun q => if fitV (tyXs q.1 q.2.1) v = true ∧ ((TXs q.1 q.2.1).2.2.2 = true → ini = true ∧ o = q.1) then (pf (h.2.2 a) q.1 q.2.1 v).bind (fun c => if 8 ≤ a then nx (pc + 3) l r (h.1, h.2.1, up h.2.2 a c) else none) else none
      | _ => none) else none
  | .getstatic idx => if len = 3 then (gl o idx).bind (fun q => match q.1 with
      | 0 => nx (pc + 3) l (.int 1 :: st) h
      | 1 => nx (pc + 3) l (.ref 1 :: st) h
      | _ => nx (pc + 3) l (opq :: st) h) else none
  | .iaload => if len = 1 then (match st with
      | .int i :: .ref a :: r => (rdi 1 (h.2.2 a) i).bind fun x => nx (pc + 1) l (.int x :: r) h
      | _ => none) else none
  | .caload => if len = 1 then (match st with
      | .int i :: .ref a :: r => (rdi 0 (h.2.2 a) i).bind fun x => nx (pc + 1) l (.int x :: r) h
      | _ => none) else none
  | .baload => if len = 1 then (match st with
      | .int i :: .ref a :: r => (rdi 4 (h.2.2 a) i).bind fun x => nx (pc + 1) l (.int x :: r) h
      | _ => none) else none
  | .laload => if len = 1 then (match st with
      | .int i :: .ref a :: r => (rdl (h.2.2 a) i).bind fun x => nx (pc + 1) l (.long x :: r) h
      | _ => none) else none
  | .aaload => if len = 1 then (match st with
      | .int i :: .ref a :: r => (rdr (h.2.2 a) i).bind fun x => nx (pc + 1) l (va_rf x :: r) h
      | _ => none) else none
  | .iastore => if len = 1 then (match st with
      | .int x :: .int i :: .ref a :: r => (wri 1 (h.2.2 a) i x).bind fun c => nx (pc + 1) l r (h.1, h.2.1, up h.2.2 a c)
      | _ => none) else none
  | .castore => if len = 1 then (match st with
      | .int x :: .int i :: .ref a :: r => (wri 0 (h.2.2 a) i (vp_nar .char x)).bind fun c => nx (pc + 1) l r (h.1, h.2.1, up h.2.2 a c)
      | _ => none) else none
  | .lastore => if len = 1 then (match st with
      | .long x :: .int i :: .ref a :: r => (wrl (h.2.2 a) i x).bind fun c => nx (pc + 1) l r (h.1, h.2.1, up h.2.2 a c)
      | _ => none) else none
  | .aastore => if len = 1 then (match st with
      | .ref v :: .int i :: .ref a :: r => if isO (h.2.2 v) 7 = true then (wrr (h.2.2 a) i v).bind (fun c => nx (pc + 1) l r (h.1, h.2.1, up h.2.2 a c)) else none
      | _ => none) else none
  | .arraylength => if len = 1 then (match st with
      | .ref a :: r => (aln (h.2.2 a)).bind fun x => nx (pc + 1) l (.int x :: r) h
      | _ => none) else none
  | .newarray t => if len = 2 then (match st with
      | .int n :: r => if 0 ≤ n ∧ n.toNatClampNeg ≤ 100000 then (nwa t n.toNatClampNeg).bind (fun c => nx (pc + 2) l (.ref h.1 :: r) (h.1 + 1, h.2.1 + n.toNatClampNeg, up h.2.2 h.1 c)) else none
      | _ => none) else none
  | .anewarray idx => if len = 3 then (match st with
      | .int n :: r => (cl_ o idx).bind fun q => if q.1 = 7 ∧ 0 ≤ n ∧ n.toNatClampNeg ≤ 100000 then nx (pc + 3) l (.ref h.1 :: r) (h.1 + 1, h.2.1 + n.toNatClampNeg, up h.2.2 h.1 (.inl (3, n.toNatClampNeg, .inr (.inr (.inr (.inr (fun _ => none))))))) else none
      | _ => none) else none
  | .new idx => if len = 3 then (cl_ o idx).bind (fun q => if q.1 < 13 then nx (pc + 3) l (.ref h.1 :: st) (h.1 + 1, h.2.1 + NXs q.1, up h.2.2 h.1 (.inr (q.1, dfs q.1))) else none) else none
  | .invokevirtual idx => if len = 3 then (ml o idx).bind (fun q => if okV q.2.1 = true ∧ rcv h q.1 q.2.2.1 st = true then calls call q.2.1 q.1 q.2.2.1 pc l st h else none) else none
  | .invokestatic idx => if len = 3 then (ml o idx).bind (fun q => if okS q.2.1 = true then calls call q.2.1 q.1 q.2.2.1 pc l st h else none) else none
  | .invokespecial idx => if len = 3 then (ml o idx).bind (fun q => if okI q.2.1 = true ∧ (q.2.1 = 7 ∨ rfr q.2.2.1 st = true) then calls call q.2.1 q.1 q.2.2.1 pc l st h else none) else none
  | .ireturn => if len = 1 then (match rt, st with
      | some ty, [.int v] => if narrow ty (.int v) = .int v then some (.inr (some (.int v), h)) else none
      | _, _ => none) else none
  | .lreturn => if len = 1 then (match rt, st with
      | some .long, [.long v] => some (.inr (some (.long v), h))
      | _, _ => none) else none
  | .return_ => if len = 1 then (match rt, st with
      | none, [] => some (.inr (none, h))
      | _, _ => none) else none
  | _ => none
def stepF (call : Nat → List Value → Hp → Option Rs) (o : Nat) (rt : Option FieldType) (ini : Bool) (nL : Nat) (cc : ByteArray) (cf : Cf) : Ot :=
  match decode cc cf.1 with
  | .ok (i, len) => istep call o rt ini nL len cf.1 cf.2.1 cf.2.2.1 cf.2.2.2 i
  | .error _ => none
def arun (call : Nat → List Value → Hp → Option Rs) (o : Nat) (rt : Option FieldType) (ini : Bool) (nL : Nat) (cc : ByteArray) : Nat → Cf → Option Rs
  | 0, _ => none
  | n + 1, cf => match stepF call o rt ini nL cc cf with
    | none => none
    | some (.inl cf') => arun call o rt ini nL cc n cf'
    | some (.inr r) => some r
noncomputable def Rn (call : Nat → List Value → Hp → Option Rs) (o : Nat) (rt : Option FieldType) (ini : Bool) (nL : Nat) (cc : ByteArray) (cf : Cf) : Option Rs :=
  @dite _ (∃ r, ∃ n, arun call o rt ini nL cc n cf = some r) (Classical.propDecidable _) (fun h => some (Classical.choose h)) (fun _ => none)
noncomputable def X : Nat → Nat → List Value → Hp → Option Rs
  | 0, _, _, _ => none
  | d + 1, y, args, h => (MT[y]?).bind fun e => if (lg_sl args).length ≤ e.2.2.2.1 then Rn (X d) e.2.1 e.2.2.2.2.1 e.2.2.2.2.2.2.1 e.2.2.2.1 e.2.2.1 (0, lv_args 0 args, [], h) else none
theorem arun_more {call : Nat → List Value → Hp → Option Rs} {o : Nat} {rt : Option FieldType} {ini : Bool} {nL : Nat} {cc : ByteArray} {r : Rs} : ∀ {n : Nat} {cf : Cf} (k : Nat), arun call o rt ini nL cc n cf = some r → arun call o rt ini nL cc (n + k) cf = some r := by
  intro n
  induction n with
  | zero => intro cf k h; simp [arun] at h
  | succ n ih =>
    intro cf k h
    rw [show n + 1 + k = (n + k) + 1 by omega]
    simp only [arun] at h ⊢
    split at h
    · cases h
    · exact ih k h
    · exact h
theorem arun_det {call : Nat → List Value → Hp → Option Rs} {o : Nat} {rt : Option FieldType} {ini : Bool} {nL : Nat} {cc : ByteArray} {r r' : Rs} {n n' : Nat} {cf : Cf} (h : arun call o rt ini nL cc n cf = some r) (h' : arun call o rt ini nL cc n' cf = some r') : r = r' := by
  have a := arun_more n' h
  have b := arun_more n h'
  rw [Nat.add_comm] at b
  rw [a] at b
  exact Option.some.inj b
theorem Rn_iff {call : Nat → List Value → Hp → Option Rs} {o : Nat} {rt : Option FieldType} {ini : Bool} {nL : Nat} {cc : ByteArray} {r : Rs} {cf : Cf} : Rn call o rt ini nL cc cf = some r ↔ ∃ n, arun call o rt ini nL cc n cf = some r := by
  unfold Rn
  by_cases h : ∃ r, ∃ n, arun call o rt ini nL cc n cf = some r
  · rw [dif_pos h]
    constructor
    · intro e
      rw [← Option.some.inj e]
      exact Classical.choose_spec h
    · intro ⟨n, hn⟩
      obtain ⟨m, hm⟩ := Classical.choose_spec h
      rw [arun_det hm hn]
  · rw [dif_neg h]
    constructor
    · intro e; cases e
    · intro e; exact absurd ⟨r, e⟩ h
theorem Rn_none {call : Nat → List Value → Hp → Option Rs} {o : Nat} {rt : Option FieldType} {ini : Bool} {nL : Nat} {cc : ByteArray} {cf cf' : Cf} (h : ∀ r, Rn call o rt ini nL cc cf = some r ↔ Rn call o rt ini nL cc cf' = some r) : Rn call o rt ini nL cc cf = Rn call o rt ini nL cc cf' := Option.ext h
/-- one step -/
theorem Rn_eq {call : Nat → List Value → Hp → Option Rs} {o : Nat} {rt : Option FieldType} {ini : Bool} {nL : Nat} {cc : ByteArray} {cf : Cf} : Rn call o rt ini nL cc cf = (match stepF call o rt ini nL cc cf with
    | none => none
    | some (.inl cf') => Rn call o rt ini nL cc cf'
    | some (.inr r) => some r) := by
  apply Option.ext
  intro r
  rw [Rn_iff]
  cases hs : stepF call o rt ini nL cc cf with
  | none =>
    simp only [reduceCtorEq, iff_false, not_exists]
    intro n
    cases n <;> simp [arun, hs]
  | some v =>
    cases v with
    | inl cf' =>
      simp only
      rw [Rn_iff]
      constructor
      · rintro ⟨n, hn⟩
        cases n with
        | zero => simp [arun] at hn
        | succ n => simp only [arun, hs] at hn; exact ⟨n, hn⟩
      · rintro ⟨n, hn⟩
        exact ⟨n + 1, by simp only [arun, hs]; exact hn⟩
    | inr r' =>
      simp only [Option.some.injEq]
      constructor
      · rintro ⟨n, hn⟩
        cases n with
        | zero => simp [arun] at hn
        | succ n => simp only [arun, hs] at hn; exact Option.some.inj hn
      · rintro rfl
        exact ⟨1, by simp only [arun, hs]⟩

/-! TESTS read with a waiting stack, purely: as the reference does it. Phases: 0 ahead of a fact, 1 a fact has ended, 2 behind it, 3 a fault, 4 the test is told; 5 nothing. Fuel f for the fact alone -/
def isSq (x : Nat) : Bool := decide (x = 25)
def isAn (x : Nat) : Bool := decide (x = 10)
def isAO (x : Nat) : Bool := decide (x = 10 ∨ x = 11)
noncomputable def tst (g : Int → Int) (k wh f : Nat) (c : Cfg) : Cfg :=
  let e := c.2.1
  let nb := c.2.2.1
  let op := c.2.2.2.1
  let V := c.2.2.2.2.1
  let C := c.2.2.2.2.2
  let P := skp g k e
  let Q := tkQ g k e
  let nx := nxB g k e nb
  if c.1 = 0 then
    @ite _ (isSg g k e 91) (Classical.propDecidable _) (if 6 ≤ op then Flt 4 P else (0, Q, nx, op + 1, 25 :: V, C))
    (@ite _ (isWd g k e nb 24) (Classical.propDecidable _) (if 6 ≤ op then Flt 4 P else (0, Q, nx, op + 1, 12 :: V, C))
    (match fcF g k wh f op e nb with
      | none => (5, e, nb, op, V, C)
      | some (.inr (a, p)) => Flt a p
      | some (.inl (e1, nb1, cs)) => (1, e1, nb1, op, V, C ++ cs.map qc)))
  else if c.1 = 1 then
    match V with
    | [] => (2, e, nb, op, [], C)
    | x :: V' => if x = 12 then (1, e, nb, op - 1, V', C ++ [x]) else (2, e, nb, op, x :: V', C)
  else if c.1 = 2 then
    @ite _ (isSg g k e 93 ∧ 25 ∈ V) (Classical.propDecidable _) (1, Q, nx, op - 1, (V.dropWhile fun x => !isSq x).tail, C ++ V.takeWhile fun x => !isSq x)
    (@ite _ (isWd g k e nb 26) (Classical.propDecidable _) (0, Q, nx, op, 10 :: V.dropWhile isAn, C ++ V.takeWhile isAn)
    (@ite _ (isWd g k e nb 25) (Classical.propDecidable _) (0, Q, nx, op, 11 :: V.dropWhile isAO, C ++ V.takeWhile isAO)
    (if 25 ∈ V then Flt 1 P else (4, e, nb, op, V, C))))
  else c
/-- m steps, each with fuel of its own -/
def TSt (g : Int → Int) (k wh : Nat) : Nat → Cfg → Cfg → Prop
  | 0, c, c' => c = c'
  | m + 1, c, c' => ∃ f, TSt g k wh m (tst g k wh f c) c'
def Tns (g : Int → Int) (k wh : Nat) (c c' : Cfg) : Prop := ∃ m, TSt g k wh m c c'
theorem TSt_add {g : Int → Int} {k wh : Nat} : ∀ {a b : Nat} {c c' c'' : Cfg}, TSt g k wh a c c' → TSt g k wh b c' c'' → TSt g k wh (a + b) c c'' := by
  intro a
  induction a with
  | zero => intro b c c' c'' h h'; cases h; rw [Nat.zero_add]; exact h'
  | succ a ih =>
    intro b c c' c'' h h'
    obtain ⟨f, h⟩ := h
    rw [show a + 1 + b = (a + b) + 1 by omega]
    exact ⟨f, ih h h'⟩
theorem Tns_refl {g : Int → Int} {k wh : Nat} (c : Cfg) : Tns g k wh c c := ⟨0, rfl⟩
theorem Tns_trans {g : Int → Int} {k wh : Nat} {a b c : Cfg} (h : Tns g k wh a b) (h' : Tns g k wh b c) : Tns g k wh a c := by
  obtain ⟨m, h⟩ := h
  obtain ⟨m', h'⟩ := h'
  exact ⟨m + m', TSt_add h h'⟩
theorem Tns_1 {g : Int → Int} {k wh : Nat} {f : Nat} {a b : Cfg} (h : tst g k wh f a = b) : Tns g k wh a b := ⟨1, f, h⟩
/-- what a fact's codes may stand on: nots and squares are on top, or nothing -/
def noT (V : List Nat) : Prop := ∀ x V', V = x :: V' → ¬ x = 12
theorem tst_end {g : Int → Int} {k wh f : Nat} {e op : Nat} {nb : Bool} {V C : List Nat} (h : noT V) : tst g k wh f (1, e, nb, op, V, C) = (2, e, nb, op, V, C) := by
  unfold tst
  dsimp only
  rw [if_neg (by omega), if_pos rfl]
  cases V with
  | nil => rfl
  | cons x V' => dsimp only; rw [if_neg (h x V' rfl)]
theorem tst_not {g : Int → Int} {k wh f : Nat} {e op : Nat} {nb : Bool} {V C : List Nat} : tst g k wh f (1, e, nb, op, 12 :: V, C) = (1, e, nb, op - 1, V, C ++ [12]) := by
  unfold tst
  dsimp only
  rw [if_neg (by omega), if_pos rfl, if_pos rfl]

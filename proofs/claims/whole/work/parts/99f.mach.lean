/-! SUMS read with a waiting stack, purely: as the reference does it. Phases: 0 ahead of a part, 1 a part has ended, 2 behind a part, 3 a fault, 4 the sum is told -/
abbrev Cfg : Type := Nat × Nat × Bool × Nat × List Nat × List Nat
def Flt (a p : Nat) : Cfg := (3, a, false, p, [], [])
def isBr (x : Nat) : Bool := decide (20 ≤ x ∧ x ≤ 24)
def isMu (x : Nat) : Bool := decide (x = 3 ∨ x = 4)
def isAr (x : Nat) : Bool := decide (1 ≤ x ∧ x ≤ 4)
def brk : List Nat → Nat
  | [] => 0
  | x :: V => if isBr x = true then x else brk V
noncomputable def mst (g : Int → Int) (k wh : Nat) (c : Cfg) : Cfg :=
  let e := c.2.1
  let nb := c.2.2.1
  let op := c.2.2.2.1
  let V := c.2.2.2.2.1
  let C := c.2.2.2.2.2
  let P := skp g k e
  let Q := tkQ g k e
  let nx := nxB g k e nb
  if c.1 = 0 then
    (if tkJ g k e nb = 2 then (if Q - P ≤ 4 then (1, Q, nx, op, V, C ++ [1000 + (vaF g k e).toNat]) else Flt 1 (P + 4))
    else @ite _ (isSg g k e 40) (Classical.propDecidable _) (if 6 ≤ op then Flt 4 P else (0, Q, nx, op + 1, 20 :: V, C))
    (if ¬ tkJ g k e nb = 1 then Flt 1 P
    else if tkW g k e = 27 ∨ tkW g k e = 28 then @ite _ (isSg g k Q 40) (Classical.propDecidable _) (if 6 ≤ op then Flt 4 (skp g k Q) else (0, tkQ g k Q, nxB g k Q nx, op + 1, (if tkW g k e = 27 then 21 else 22) :: V, C)) (Flt 1 (skp g k Q))
    else @ite _ (askd wh (tkW g k e)) (Classical.propDecidable _) (if 6 ≤ op then Flt 4 P else (0, Q, nx, op + 1, qc (tkW g k e).toNat :: V, C))
    (@ite _ (alon wh (tkW g k e)) (Classical.propDecidable _) (1, Q, nx, op, V, C ++ [qc (tkW g k e).toNat]) (Flt 1 P))))
  else if c.1 = 1 then
    match V with
    | [] => (2, e, nb, op, [], C)
    | x :: V' => if 60 ≤ x then (1, e, nb, op - 1, V', C ++ [x]) else (2, e, nb, op, x :: V', C)
  else if c.1 = 2 then
    @ite _ (isSg g k e 41 ∧ (brk V = 20 ∨ brk V = 23 ∨ brk V = 24)) (Classical.propDecidable _) (1, Q, nx, op - 1, (V.dropWhile fun x => !isBr x).tail, C ++ (V.takeWhile fun x => !isBr x) ++ (if brk V = 20 then [] else if brk V = 23 then [5] else [6]))
    (@ite _ (isSg g k e 42 ∨ isSg g k e 47) (Classical.propDecidable _) (0, Q, nx, op, (if vaF g k e = 42 then 3 else 4) :: V.dropWhile isMu, C ++ V.takeWhile isMu)
    (@ite _ (isSg g k e 43 ∨ isSg g k e 45) (Classical.propDecidable _) (0, Q, nx, op, (if vaF g k e = 43 then 1 else 2) :: V.dropWhile isAr, C ++ V.takeWhile isAr)
    (if brk V = 21 ∨ brk V = 22 then @ite _ (isSg g k e 44) (Classical.propDecidable _) (0, Q, nx, op, (brk V + 2) :: (V.dropWhile fun x => !isBr x).tail, C ++ (V.takeWhile fun x => !isBr x)) (Flt 1 P)
    else if brk V = 0 then (4, e, nb, op, V, C) else Flt 1 P)))
  else c
noncomputable def mit (g : Int → Int) (k wh : Nat) : Nat → Cfg → Cfg
  | 0, c => c
  | m + 1, c => mit g k wh m (mst g k wh c)
def Rns (g : Int → Int) (k wh : Nat) (c c' : Cfg) : Prop := ∃ m, mit g k wh m c = c'
theorem mit_add {g : Int → Int} {k wh : Nat} : ∀ {a b : Nat} {c : Cfg}, mit g k wh (a + b) c = mit g k wh b (mit g k wh a c) := by
  intro a
  induction a with
  | zero => intro b c; rw [Nat.zero_add]; rfl
  | succ a ih => intro b c; rw [show a + 1 + b = (a + b) + 1 by omega]; show mit g k wh (a + b) (mst g k wh c) = mit g k wh b (mit g k wh a (mst g k wh c)); exact ih
theorem Rns_refl {g : Int → Int} {k wh : Nat} (c : Cfg) : Rns g k wh c c := ⟨0, rfl⟩
theorem Rns_trans {g : Int → Int} {k wh : Nat} {a b c : Cfg} (h : Rns g k wh a b) (h' : Rns g k wh b c) : Rns g k wh a c := by
  obtain ⟨m, h⟩ := h
  obtain ⟨m', h'⟩ := h'
  exact ⟨m + m', by rw [mit_add, h, h']⟩
theorem Rns_1 {g : Int → Int} {k wh : Nat} {a b : Cfg} (h : mst g k wh a = b) : Rns g k wh a b := ⟨1, h⟩
/-- what waits: signs alone -/
def arT (T : List Nat) : Prop := ∀ x ∈ T, 1 ≤ x ∧ x ≤ 4
def muT (T : List Nat) : Prop := T = [] ∨ T = [3] ∨ T = [4]
/-- what a sum may stand on; what a product may stand on -/
def brO (V : List Nat) : Prop := V = [] ∨ ∃ b V', V = b :: V' ∧ 20 ≤ b ∧ b ≤ 24
def prO (V : List Nat) : Prop := V = [] ∨ ∃ b V', V = b :: V' ∧ b < 60 ∧ ¬ (b = 3 ∨ b = 4)
theorem brO_pr {V : List Nat} (h : brO V) : prO V := by
  rcases h with h | ⟨b, V', h, h1, h2⟩
  · exact Or.inl h
  · exact Or.inr ⟨b, V', h, by omega, by omega⟩
theorem tk_mu {T V : List Nat} (hT : muT T) (hV : prO V) : (T ++ V).takeWhile isMu = T ∧ (T ++ V).dropWhile isMu = V := by
  have hv : V.takeWhile isMu = [] ∧ V.dropWhile isMu = V := by
    rcases hV with rfl | ⟨b, V', rfl, -, h⟩
    · exact ⟨rfl, rfl⟩
    · have : isMu b = false := by unfold isMu; rw [decide_eq_false_iff_not]; exact h
      simp [List.takeWhile, List.dropWhile, this]
  rcases hT with rfl | rfl | rfl
  · exact hv
  · have e : isMu 3 = true := rfl
    simp [List.takeWhile, List.dropWhile, e, hv.1, hv.2]
  · have e : isMu 4 = true := rfl
    simp [List.takeWhile, List.dropWhile, e, hv.1, hv.2]
theorem tk_ar {T V : List Nat} (hT : arT T) (hV : brO V) : (T ++ V).takeWhile isAr = T ∧ (T ++ V).dropWhile isAr = V := by
  induction T with
  | nil =>
    rcases hV with rfl | ⟨b, V', rfl, h1, h2⟩
    · exact ⟨rfl, rfl⟩
    · have : isAr b = false := by unfold isAr; rw [decide_eq_false_iff_not]; omega
      simp [List.takeWhile, List.dropWhile, this]
  | cons x r ih =>
    have e : isAr x = true := by have := hT x (by simp); unfold isAr; rw [decide_eq_true_iff]; exact this
    have := ih (fun y hy => hT y (by simp [hy]))
    simp [List.takeWhile, List.dropWhile, e, this.1, this.2]
theorem tk_br {T V : List Nat} {b : Nat} (hT : arT T) (h1 : 20 ≤ b) (h2 : b ≤ 24) : (T ++ b :: V).takeWhile (fun x => !isBr x) = T ∧ (T ++ b :: V).dropWhile (fun x => !isBr x) = b :: V ∧ brk (T ++ b :: V) = b := by
  induction T with
  | nil =>
    have : isBr b = true := by unfold isBr; rw [decide_eq_true_iff]; omega
    simp [List.takeWhile, List.dropWhile, this, brk]
  | cons x r ih =>
    have e : isBr x = false := by have := hT x (by simp); unfold isBr; rw [decide_eq_false_iff_not]; omega
    have := ih (fun y hy => hT y (by simp [hy]))
    refine ⟨?_, ?_, ?_⟩
    · simp [List.takeWhile, e, this.1]
    · simp [List.dropWhile, e, this.2.1]
    · simp [brk, e, this.2.2]
theorem brk_0 {T V : List Nat} (hT : arT T) (hV : brO V) : brk (T ++ V) = brk V := by
  induction T with
  | nil => rfl
  | cons x r ih =>
    have e : isBr x = false := by have := hT x (by simp); unfold isBr; rw [decide_eq_false_iff_not]; omega
    simp [brk, e, ih (fun y hy => hT y (by simp [hy]))]
section
variable {g : Int → Int} {k wh : Nat}
theorem Sg_ne {e : Nat} {a b : Int} (h : isSg g k e a) (hab : ¬ a = b) : ¬ isSg g k e b := fun h' => hab (h.2.symm.trans h'.2)
/-- behind a part: a sign of products -/
theorem mst_mu {e op : Nat} {nb : Bool} {T V C : List Nat} (hT : muT T) (hV : prO V) (h : isSg g k e 42 ∨ isSg g k e 47) : mst g k wh (2, e, nb, op, T ++ V, C) = (0, tkQ g k e, nxB g k e nb, op, (if vaF g k e = 42 then 3 else 4) :: V, C ++ T) := by
  obtain ⟨t1, t2⟩ := tk_mu hT hV
  have n41 : ¬ isSg g k e 41 := by rcases h with h | h <;> exact Sg_ne h (by omega)
  unfold mst
  dsimp only
  rw [if_neg (by omega), if_neg (by omega), if_pos rfl, if_neg (fun h => n41 h.1), if_pos h, t1, t2]
theorem mst_ar {e op : Nat} {nb : Bool} {T V C : List Nat} (hT : arT T) (hV : brO V) (h : isSg g k e 43 ∨ isSg g k e 45) : mst g k wh (2, e, nb, op, T ++ V, C) = (0, tkQ g k e, nxB g k e nb, op, (if vaF g k e = 43 then 1 else 2) :: V, C ++ T) := by
  obtain ⟨t1, t2⟩ := tk_ar hT hV
  have n41 : ¬ isSg g k e 41 := by rcases h with h | h <;> exact Sg_ne h (by omega)
  have n42 : ¬ (isSg g k e 42 ∨ isSg g k e 47) := by rcases h with h | h <;> exact fun h' => by rcases h' with h' | h' <;> exact Sg_ne h (by omega) h'
  unfold mst
  dsimp only
  rw [if_neg (by omega), if_neg (by omega), if_pos rfl, if_neg (fun h => n41 h.1), if_neg n42, if_pos h, t1, t2]
theorem mst_p {e op : Nat} {nb : Bool} {V C : List Nat} (hV : V = [] ∨ ∃ b V', V = b :: V' ∧ b < 60) : mst g k wh (1, e, nb, op, V, C) = (2, e, nb, op, V, C) := by
  unfold mst
  dsimp only
  rw [if_neg (by omega), if_pos rfl]
  rcases hV with rfl | ⟨b, V', rfl, h⟩
  · rfl
  · dsimp only
    rw [if_neg (by omega)]
def nMu (g : Int → Int) (k e : Nat) : Prop := ¬ (isSg g k e 42 ∨ isSg g k e 47)
def nAr (g : Int → Int) (k e : Nat) : Prop := ¬ (isSg g k e 43 ∨ isSg g k e 45)
def SPa (g : Int → Int) (k wh f : Nat) : Prop := ∀ (op e : Nat) (nb : Bool) (r : Rz) (V C : List Nat), ev g k wh f 9 op e nb = some r → match r with
  | .inl (e', nb', cs) => Rns g k wh (0, e, nb, op, V, C) (1, e', nb', op, V, C ++ cs.map qc)
  | .inr (a, p) => Rns g k wh (0, e, nb, op, V, C) (Flt a p)
def SPr (g : Int → Int) (k wh f : Nat) : Prop := ∀ (op e : Nat) (nb : Bool) (r : Rz) (V C : List Nat), prO V → ev g k wh f 7 op e nb = some r → match r with
  | .inl (e', nb', cs) => ∃ T C1, Rns g k wh (0, e, nb, op, V, C) (2, e', nb', op, T ++ V, C1) ∧ muT T ∧ C1 ++ T = C ++ cs.map qc ∧ nMu g k e'
  | .inr (a, p) => Rns g k wh (0, e, nb, op, V, C) (Flt a p)
def SPl (g : Int → Int) (k wh f : Nat) : Prop := ∀ (op e : Nat) (nb : Bool) (r : Rz) (T V C : List Nat), muT T → prO V → ev g k wh f 8 op e nb = some r → match r with
  | .inl (e', nb', cs) => ∃ T' C1, Rns g k wh (2, e, nb, op, T ++ V, C) (2, e', nb', op, T' ++ V, C1) ∧ muT T' ∧ C1 ++ T' = C ++ T ++ cs.map qc ∧ nMu g k e'
  | .inr (a, p) => Rns g k wh (2, e, nb, op, T ++ V, C) (Flt a p)
def SSu (g : Int → Int) (k wh f : Nat) : Prop := ∀ (op e : Nat) (nb : Bool) (r : Rz) (V C : List Nat), brO V → ev g k wh f 5 op e nb = some r → match r with
  | .inl (e', nb', cs) => ∃ T C1, Rns g k wh (0, e, nb, op, V, C) (2, e', nb', op, T ++ V, C1) ∧ arT T ∧ C1 ++ T = C ++ cs.map qc ∧ nMu g k e' ∧ nAr g k e'
  | .inr (a, p) => Rns g k wh (0, e, nb, op, V, C) (Flt a p)
def SSl (g : Int → Int) (k wh f : Nat) : Prop := ∀ (op e : Nat) (nb : Bool) (r : Rz) (T V C : List Nat), arT T → nMu g k e → brO V → ev g k wh f 6 op e nb = some r → match r with
  | .inl (e', nb', cs) => ∃ T' C1, Rns g k wh (2, e, nb, op, T ++ V, C) (2, e', nb', op, T' ++ V, C1) ∧ arT T' ∧ C1 ++ T' = C ++ T ++ cs.map qc ∧ nMu g k e' ∧ nAr g k e'
  | .inr (a, p) => Rns g k wh (2, e, nb, op, T ++ V, C) (Flt a p)
theorem sim_pl {f : Nat} (hA : SPa g k wh f) (hL : SPl g k wh f) : SPl g k wh (f + 1) := by
  intro op e nb r T V C hT hV h
  rw [ev_t8] at h
  split at h
  · rename_i q
    have st := mst_mu (wh := wh) (nb := nb) (op := op) (C := C) hT hV q
    have hqc : qc (vaF g k e).toNat = (if vaF g k e = 42 then 3 else 4) := by rcases q with q | q <;> (rw [q.2]; rfl)
    generalize hs : (if vaF g k e = 42 then 3 else 4) = s at *
    have hs34 : s = 3 ∨ s = 4 := by rw [← hs]; split <;> simp
    rcases bnd_some h with ⟨x, hx, rfl⟩ | ⟨e1, n1, c1, hx, h⟩
    · exact Rns_trans (Rns_1 st) (hA op _ _ _ (s :: V) (C ++ T) hx)
    · have a := hA op _ _ _ (s :: V) (C ++ T) hx
      dsimp only at a
      have pg := mst_p (g := g) (k := k) (wh := wh) (e := e1) (nb := n1) (op := op) (V := s :: V) (C := C ++ T ++ c1.map qc) (Or.inr ⟨s, V, rfl, by omega⟩)
      have R := Rns_trans (Rns_trans (Rns_1 st) a) (Rns_1 pg)
      rcases bnd_some h with ⟨x, hy, rfl⟩ | ⟨e2, n2, c2, hy, h⟩
      · exact Rns_trans R (hL op _ _ _ [s] V (C ++ T ++ c1.map qc) (by rcases hs34 with h | h <;> simp [muT, h]) hV hy)
      · cases h
        obtain ⟨T', C1, b1, b2, b3, b4⟩ := hL op _ _ _ [s] V (C ++ T ++ c1.map qc) (by rcases hs34 with h | h <;> simp [muT, h]) hV hy
        refine ⟨T', C1, Rns_trans R b1, b2, ?_, b4⟩
        rw [b3]
        simp [List.append_assoc, hqc]
  · rename_i q
    cases h
    exact ⟨T, C, Rns_refl _, hT, by simp, q⟩
theorem sim_pr {f : Nat} (hA : SPa g k wh f) (hL : SPl g k wh f) : SPr g k wh (f + 1) := by
  intro op e nb r V C hV h
  rw [ev_t7] at h
  rcases bnd_some h with ⟨x, hx, rfl⟩ | ⟨e1, n1, c1, hx, h⟩
  · exact hA op _ _ _ V C hx
  · have a := hA op _ _ _ V C hx
    dsimp only at a
    have pg := mst_p (g := g) (k := k) (wh := wh) (e := e1) (nb := n1) (op := op) (V := V) (C := C ++ c1.map qc) (by rcases hV with h | ⟨b, V', h1, h2, -⟩; exact Or.inl h; exact Or.inr ⟨b, V', h1, h2⟩)
    have R := Rns_trans a (Rns_1 pg)
    rcases bnd_some h with ⟨x, hy, rfl⟩ | ⟨e2, n2, c2, hy, h⟩
    · exact Rns_trans R (hL op _ _ _ [] V (C ++ c1.map qc) (Or.inl rfl) hV hy)
    · cases h
      obtain ⟨T', C1, b1, b2, b3, b4⟩ := hL op _ _ _ [] V (C ++ c1.map qc) (Or.inl rfl) hV hy
      refine ⟨T', C1, Rns_trans R b1, b2, ?_, b4⟩
      rw [b3]
      simp [List.append_assoc]
theorem muT_ar {T : List Nat} (h : muT T) : arT T := by
  rcases h with rfl | rfl | rfl
  · intro x hx; simp at hx
  · intro x hx; simp at hx; omega
  · intro x hx; simp at hx; omega
theorem sim_sl {f : Nat} (hA : SPr g k wh f) (hL : SSl g k wh f) : SSl g k wh (f + 1) := by
  intro op e nb r T V C hT hM hV h
  rw [ev_t6] at h
  split at h
  · rename_i q
    have st := mst_ar (wh := wh) (nb := nb) (op := op) (C := C) hT hV q
    have hqc : qc (vaF g k e).toNat = (if vaF g k e = 43 then 1 else 2) := by rcases q with q | q <;> (rw [q.2]; rfl)
    generalize hs : (if vaF g k e = 43 then 1 else 2) = s at *
    have hs34 : s = 1 ∨ s = 2 := by rw [← hs]; split <;> simp
    have hpr : prO (s :: V) := Or.inr ⟨s, V, rfl, by omega, by omega⟩
    rcases bnd_some h with ⟨x, hx, rfl⟩ | ⟨e1, n1, c1, hx, h⟩
    · exact Rns_trans (Rns_1 st) (hA op _ _ _ (s :: V) (C ++ T) hpr hx)
    · obtain ⟨T1, C1, a1, a2, a3, a4⟩ := hA op _ _ _ (s :: V) (C ++ T) hpr hx
      have R := Rns_trans (Rns_1 st) a1
      have eT : T1 ++ s :: V = (T1 ++ [s]) ++ V := by simp
      rw [eT] at R
      have hT1 : arT (T1 ++ [s]) := fun y hy => by
        rw [List.mem_append] at hy
        rcases hy with hy | hy
        · exact muT_ar a2 y hy
        · simp at hy; omega
      rcases bnd_some h with ⟨x, hy, rfl⟩ | ⟨e2, n2, c2, hy, h⟩
      · exact Rns_trans R (hL op _ _ _ (T1 ++ [s]) V C1 hT1 a4 hV hy)
      · cases h
        obtain ⟨T', C2, b1, b2, b3, b4, b5⟩ := hL op _ _ _ (T1 ++ [s]) V C1 hT1 a4 hV hy
        refine ⟨T', C2, Rns_trans R b1, b2, ?_, b4, b5⟩
        rw [b3, ← List.append_assoc C1, a3]
        simp [List.append_assoc, hqc]
  · rename_i q
    cases h
    exact ⟨T, C, Rns_refl _, hT, by simp, hM, q⟩
theorem sim_su {f : Nat} (hA : SPr g k wh f) (hL : SSl g k wh f) : SSu g k wh (f + 1) := by
  intro op e nb r V C hV h
  rw [ev_t5] at h
  rcases bnd_some h with ⟨x, hx, rfl⟩ | ⟨e1, n1, c1, hx, h⟩
  · exact hA op _ _ _ V C (brO_pr hV) hx
  · obtain ⟨T1, C1, a1, a2, a3, a4⟩ := hA op _ _ _ V C (brO_pr hV) hx
    rcases bnd_some h with ⟨x, hy, rfl⟩ | ⟨e2, n2, c2, hy, h⟩
    · exact Rns_trans a1 (hL op _ _ _ T1 V C1 (muT_ar a2) a4 hV hy)
    · cases h
      obtain ⟨T', C2, b1, b2, b3, b4, b5⟩ := hL op _ _ _ T1 V C1 (muT_ar a2) a4 hV hy
      refine ⟨T', C2, Rns_trans a1 b1, b2, ?_, b4, b5⟩
      rw [b3, a3]
      simp [List.append_assoc]
end

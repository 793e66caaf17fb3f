/-! TESTS by a waiting stack: what ev tells the machine does -/
def anT (T : List Nat) : Prop := T = [] ∨ T = [10]
def aoT (T : List Nat) : Prop := ∀ x ∈ T, x = 10 ∨ x = 11
/-- what a both, what a test may stand on -/
def boO (V : List Nat) : Prop := V = [] ∨ ∃ b V', V = b :: V' ∧ (b = 25 ∨ b = 11)
def teO (V : List Nat) : Prop := V = [] ∨ ∃ V', V = 25 :: V'
theorem teO_bo {V : List Nat} (h : teO V) : boO V := by
  rcases h with h | ⟨V', h⟩
  · exact Or.inl h
  · exact Or.inr ⟨25, V', h, Or.inl rfl⟩
theorem tk_an {T V : List Nat} (hT : anT T) (hV : boO V) : (T ++ V).takeWhile isAn = T ∧ (T ++ V).dropWhile isAn = V := by
  have hv : V.takeWhile isAn = [] ∧ V.dropWhile isAn = V := by
    rcases hV with rfl | ⟨b, V', rfl, h⟩
    · exact ⟨rfl, rfl⟩
    · have : isAn b = false := by unfold isAn; rw [decide_eq_false_iff_not]; omega
      simp [List.takeWhile, List.dropWhile, this]
  rcases hT with rfl | rfl
  · exact hv
  · have e : isAn 10 = true := rfl
    simp [List.takeWhile, List.dropWhile, e, hv.1, hv.2]
theorem tk_ao {T V : List Nat} (hT : aoT T) (hV : teO V) : (T ++ V).takeWhile isAO = T ∧ (T ++ V).dropWhile isAO = V := by
  induction T with
  | nil =>
    rcases hV with rfl | ⟨V', rfl⟩
    · exact ⟨rfl, rfl⟩
    · have : isAO 25 = false := rfl
      simp [List.takeWhile, List.dropWhile, this]
  | cons t T ih =>
    have e : isAO t = true := by
      have := hT t (by simp)
      unfold isAO; rw [decide_eq_true_iff]; exact this
    have i := ih (fun x hx => hT x (by simp [hx]))
    simp [List.takeWhile, List.dropWhile, e, i.1, i.2]
theorem tk_sq {T V : List Nat} (hT : aoT T) : ((T ++ 25 :: V).takeWhile fun x => !isSq x) = T ∧ ((T ++ 25 :: V).dropWhile fun x => !isSq x).tail = V := by
  induction T with
  | nil =>
    have : isSq 25 = true := rfl
    simp [List.takeWhile, List.dropWhile, this]
  | cons t T ih =>
    have e : isSq t = false := by
      have := hT t (by simp)
      unfold isSq; rw [decide_eq_false_iff_not]; omega
    have i := ih (fun x hx => hT x (by simp [hx]))
    simp [List.takeWhile, List.dropWhile, e, i.1, i.2]
theorem no25 {T V : List Nat} (hT : aoT T) : 25 ∈ T ++ 25 :: V := by simp
theorem noT_an {T V : List Nat} (hT : aoT T) (hV : boO V) : noT (T ++ V) := by
  intro x V' h
  cases T with
  | nil =>
    rcases hV with rfl | ⟨b, W, rfl, hb⟩
    · cases h
    · rw [List.nil_append] at h; cases h; omega
  | cons t T =>
    rw [List.cons_append] at h
    cases h
    have := hT x (by simp)
    omega
theorem an_ao {T : List Nat} (h : anT T) : aoT T := by
  rcases h with rfl | rfl
  · intro x hx; cases hx
  · intro x hx; simp at hx; exact Or.inl hx
section
variable {g : Int → Int} {k wh : Nat}
theorem SgWd {e : Nat} {nb : Bool} {w v : Int} (h : isWd g k e nb w) : ¬ isSg g k e v := fun h' => by
  have a := Wd_K h
  have b := Sg_K h'
  omega
theorem tst_and {f e op : Nat} {nb : Bool} {T V C : List Nat} (hT : anT T) (hV : boO V) (h : isWd g k e nb 26) : tst g k wh f (2, e, nb, op, T ++ V, C) = (0, tkQ g k e, nxB g k e nb, op, 10 :: V, C ++ T) := by
  obtain ⟨t1, t2⟩ := tk_an hT hV
  unfold tst
  dsimp only
  rw [if_neg (by omega), if_neg (by omega), if_pos rfl, if_neg (fun q => SgWd h q.1), if_pos h, t1, t2]
theorem tst_or {f e op : Nat} {nb : Bool} {T V C : List Nat} (hT : aoT T) (hV : teO V) (h : isWd g k e nb 25) (hn : ¬ isWd g k e nb 26) : tst g k wh f (2, e, nb, op, T ++ V, C) = (0, tkQ g k e, nxB g k e nb, op, 11 :: V, C ++ T) := by
  obtain ⟨t1, t2⟩ := tk_ao hT hV
  unfold tst
  dsimp only
  rw [if_neg (by omega), if_neg (by omega), if_pos rfl, if_neg (fun q => SgWd h q.1), if_neg hn, if_pos h, t1, t2]
theorem tst_close {f e op : Nat} {nb : Bool} {T V C : List Nat} (hT : aoT T) (h : isSg g k e 93) : tst g k wh f (2, e, nb, op, T ++ 25 :: V, C) = (1, tkQ g k e, nxB g k e nb, op - 1, V, C ++ T) := by
  obtain ⟨t1, t2⟩ := tk_sq (V := V) hT
  unfold tst
  dsimp only
  rw [if_neg (by omega), if_neg (by omega), if_pos rfl, if_pos ⟨h, by simp⟩, t1, t2]
theorem tst_open {f e op : Nat} {nb : Bool} {T V C : List Nat} (h : ¬ isSg g k e 93) (h1 : ¬ isWd g k e nb 26) (h2 : ¬ isWd g k e nb 25) : tst g k wh f (2, e, nb, op, T ++ 25 :: V, C) = Flt 1 (skp g k e) := by
  unfold tst
  dsimp only
  rw [if_neg (by omega), if_neg (by omega), if_pos rfl, if_neg (fun q => h q.1), if_neg h1, if_neg h2, if_pos (by simp)]
def SFa (g : Int → Int) (k wh f : Nat) : Prop := ∀ (op e : Nat) (nb : Bool) (r : Rz) (V C : List Nat), ev g k wh f 4 op e nb = some r → match r with
  | .inl (e', nb', cs) => Tns g k wh (0, e, nb, op, V, C) (1, e', nb', op, V, C ++ cs.map qc)
  | .inr (a, p) => Tns g k wh (0, e, nb, op, V, C) (Flt a p)
def SBo (g : Int → Int) (k wh f : Nat) : Prop := ∀ (op e : Nat) (nb : Bool) (r : Rz) (V C : List Nat), boO V → ev g k wh f 2 op e nb = some r → match r with
  | .inl (e', nb', cs) => ∃ T C1, Tns g k wh (0, e, nb, op, V, C) (2, e', nb', op, T ++ V, C1) ∧ anT T ∧ C1 ++ T = C ++ cs.map qc ∧ ¬ isWd g k e' nb' 26
  | .inr (a, p) => Tns g k wh (0, e, nb, op, V, C) (Flt a p)
def SBl (g : Int → Int) (k wh f : Nat) : Prop := ∀ (op e : Nat) (nb : Bool) (r : Rz) (T V C : List Nat), anT T → boO V → ev g k wh f 3 op e nb = some r → match r with
  | .inl (e', nb', cs) => ∃ T' C1, Tns g k wh (2, e, nb, op, T ++ V, C) (2, e', nb', op, T' ++ V, C1) ∧ anT T' ∧ C1 ++ T' = C ++ T ++ cs.map qc ∧ ¬ isWd g k e' nb' 26
  | .inr (a, p) => Tns g k wh (2, e, nb, op, T ++ V, C) (Flt a p)
def STe (g : Int → Int) (k wh f : Nat) : Prop := ∀ (op e : Nat) (nb : Bool) (r : Rz) (V C : List Nat), teO V → ev g k wh f 0 op e nb = some r → match r with
  | .inl (e', nb', cs) => ∃ T C1, Tns g k wh (0, e, nb, op, V, C) (2, e', nb', op, T ++ V, C1) ∧ aoT T ∧ C1 ++ T = C ++ cs.map qc ∧ ¬ isWd g k e' nb' 26 ∧ ¬ isWd g k e' nb' 25
  | .inr (a, p) => Tns g k wh (0, e, nb, op, V, C) (Flt a p)
def STl (g : Int → Int) (k wh f : Nat) : Prop := ∀ (op e : Nat) (nb : Bool) (r : Rz) (T V C : List Nat), aoT T → teO V → ¬ isWd g k e nb 26 → ev g k wh f 1 op e nb = some r → match r with
  | .inl (e', nb', cs) => ∃ T' C1, Tns g k wh (2, e, nb, op, T ++ V, C) (2, e', nb', op, T' ++ V, C1) ∧ aoT T' ∧ C1 ++ T' = C ++ T ++ cs.map qc ∧ ¬ isWd g k e' nb' 26 ∧ ¬ isWd g k e' nb' 25
  | .inr (a, p) => Tns g k wh (2, e, nb, op, T ++ V, C) (Flt a p)
theorem sim_fa {f : Nat} (hT : STe g k wh f) (hF : SFa g k wh f) : SFa g k wh (f + 1) := by
  intro op e nb r V C h
  rw [ev_t4] at h
  have m0 : tst g k wh f (0, e, nb, op, V, C) = @ite _ (isSg g k e 91) (Classical.propDecidable _) (if 6 ≤ op then Flt 4 (skp g k e) else (0, tkQ g k e, nxB g k e nb, op + 1, 25 :: V, C))
    (@ite _ (isWd g k e nb 24) (Classical.propDecidable _) (if 6 ≤ op then Flt 4 (skp g k e) else (0, tkQ g k e, nxB g k e nb, op + 1, 12 :: V, C))
    (match fcF g k wh f op e nb with
      | none => (5, e, nb, op, V, C)
      | some (.inr (a, p)) => Flt a p
      | some (.inl (e1, nb1, cs)) => (1, e1, nb1, op, V, C ++ cs.map qc))) := by
    unfold tst
    dsimp only
    rw [if_pos rfl]
    rfl
  split at h
  · rename_i q
    rw [if_neg (SgWd q), if_pos q] at m0
    split at h
    · rename_i h6
      cases h
      rw [if_pos h6] at m0
      exact Tns_1 m0
    · rename_i h6
      rw [if_neg h6] at m0
      rcases bnd_some h with ⟨x, hx, rfl⟩ | ⟨e1, n1, c1, hx, h⟩
      · exact Tns_trans (Tns_1 m0) (hF _ _ _ _ (12 :: V) C hx)
      · cases h
        have a1 := hF _ _ _ _ (12 :: V) C hx
        have := Tns_trans (Tns_trans (Tns_1 m0) a1) (Tns_1 (f := 0) tst_not)
        show Tns g k wh _ (_, _, _, _, _, C ++ List.map qc (c1 ++ [24]))
        rw [List.map_append, ← List.append_assoc]
        exact this
  · rename_i nq
    rw [if_neg nq] at m0
    split at h
    · rename_i q
      rw [if_pos q] at m0
      split at h
      · rename_i h6
        cases h
        rw [if_pos h6] at m0
        exact Tns_1 m0
      · rename_i h6
        rw [if_neg h6] at m0
        rcases bnd_some h with ⟨x, hx, rfl⟩ | ⟨e1, n1, c1, hx, h⟩
        · exact Tns_trans (Tns_1 m0) (hT _ _ _ _ (25 :: V) C (Or.inr ⟨V, rfl⟩) hx)
        · obtain ⟨T, C1, a1, a2, a3, a4, a5⟩ := hT _ _ _ _ (25 :: V) C (Or.inr ⟨V, rfl⟩) hx
          have R := Tns_trans (Tns_1 m0) a1
          split at h
          · rename_i q2
            cases h
            have := tst_close (wh := wh) (f := 0) (nb := n1) (op := op + 1) (V := V) (C := C1) a2 q2
            rw [a3] at this
            exact Tns_trans R (Tns_1 this)
          · rename_i q2
            cases h
            exact Tns_trans R (Tns_1 (f := 0) (tst_open q2 a4 a5))
    · rename_i nq2
      rw [if_neg nq2] at m0
      have hfc : fcF g k wh f op e nb = some r := h
      rw [hfc] at m0
      rcases r with ⟨e', nb', cs⟩ | ⟨a, p⟩
      · exact Tns_1 m0
      · exact Tns_1 m0
end

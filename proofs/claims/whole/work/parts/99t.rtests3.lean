/-! TESTS by a waiting stack; all of it -/
section
variable {g : Int → Int} {k wh : Nat}
theorem sim_bl {f : Nat} (hF : SFa g k wh f) (hL : SBl g k wh f) : SBl g k wh (f + 1) := by
  intro op e nb r T V C hT hV h
  rw [ev_t3] at h
  split at h
  · rename_i q
    have m1 := tst_and (wh := wh) (f := 0) (nb := nb) (op := op) (C := C) hT hV q
    have hn10 : noT (10 :: V) := fun x V' hx => by cases hx; omega
    rcases bnd_some h with ⟨x, hx, rfl⟩ | ⟨e1, n1, c1, hx, h⟩
    · exact Tns_trans (Tns_1 m1) (hF _ _ _ _ (10 :: V) (C ++ T) hx)
    · have a1 := Tns_trans (Tns_trans (Tns_1 m1) (hF _ _ _ _ (10 :: V) (C ++ T) hx)) (Tns_1 (f := 0) (tst_end hn10))
      rcases bnd_some h with ⟨x, hy, rfl⟩ | ⟨e2, n2, c2, hy, h⟩
      · exact Tns_trans a1 (hL _ _ _ _ [10] V _ (Or.inr rfl) hV hy)
      · cases h
        obtain ⟨T', C1, b1, b2, b3, b4⟩ := hL _ _ _ _ [10] V _ (Or.inr rfl) hV hy
        refine ⟨T', C1, Tns_trans a1 b1, b2, ?_, b4⟩
        rw [b3, List.map_append, List.map_cons]
        have : qc 26 = 10 := rfl
        rw [this]
        simp [List.append_assoc]
  · rename_i q
    cases h
    exact ⟨T, C, Tns_refl _, hT, by simp, q⟩
theorem sim_bo {f : Nat} (hF : SFa g k wh f) (hL : SBl g k wh f) : SBo g k wh (f + 1) := by
  intro op e nb r V C hV h
  rw [ev_t2] at h
  have hn : noT V := noT_an (T := []) (fun x hx => by cases hx) hV
  rcases bnd_some h with ⟨x, hx, rfl⟩ | ⟨e1, n1, c1, hx, h⟩
  · exact hF _ _ _ _ V C hx
  · have a1 := Tns_trans (hF _ _ _ _ V C hx) (Tns_1 (f := 0) (tst_end hn))
    rcases bnd_some h with ⟨x, hy, rfl⟩ | ⟨e2, n2, c2, hy, h⟩
    · exact Tns_trans a1 (hL _ _ _ _ [] V _ (Or.inl rfl) hV hy)
    · cases h
      obtain ⟨T', C1, b1, b2, b3, b4⟩ := hL _ _ _ _ [] V _ (Or.inl rfl) hV hy
      refine ⟨T', C1, Tns_trans a1 b1, b2, ?_, b4⟩
      rw [b3, List.map_append]
      simp [List.append_assoc]
theorem sim_tl {f : Nat} (hB : SBo g k wh f) (hL : STl g k wh f) : STl g k wh (f + 1) := by
  intro op e nb r T V C hT hV hn h
  rw [ev_t1] at h
  split at h
  · rename_i q
    have m1 := tst_or (wh := wh) (f := 0) (nb := nb) (op := op) (C := C) hT hV q hn
    have hbo : boO (11 :: V) := Or.inr ⟨11, V, rfl, Or.inr rfl⟩
    rcases bnd_some h with ⟨x, hx, rfl⟩ | ⟨e1, n1, c1, hx, h⟩
    · exact Tns_trans (Tns_1 m1) (hB _ _ _ _ (11 :: V) (C ++ T) hbo hx)
    · obtain ⟨Ta, Ca, a1, a2, a3, a4⟩ := hB _ _ _ _ (11 :: V) (C ++ T) hbo hx
      have R := Tns_trans (Tns_1 m1) a1
      have e1' : Ta ++ 11 :: V = (Ta ++ [11]) ++ V := by simp
      rw [e1'] at R
      have hT2 : aoT (Ta ++ [11]) := by
        intro x hx
        rw [List.mem_append] at hx
        rcases hx with hx | hx
        · exact an_ao a2 x hx
        · simp at hx; exact Or.inr hx
      rcases bnd_some h with ⟨x, hy, rfl⟩ | ⟨e2, n2, c2, hy, h⟩
      · exact Tns_trans R (hL _ _ _ _ (Ta ++ [11]) V _ hT2 hV a4 hy)
      · cases h
        obtain ⟨T', C1, b1, b2, b3, b4, b5⟩ := hL _ _ _ _ (Ta ++ [11]) V _ hT2 hV a4 hy
        refine ⟨T', C1, Tns_trans R b1, b2, ?_, b4, b5⟩
        have : qc 25 = 11 := rfl
        rw [b3, List.map_append, List.map_cons, this, ← List.append_assoc Ca, a3]
        simp [List.append_assoc]
  · rename_i q
    cases h
    exact ⟨T, C, Tns_refl _, hT, by simp, hn, q⟩
theorem sim_te {f : Nat} (hB : SBo g k wh f) (hL : STl g k wh f) : STe g k wh (f + 1) := by
  intro op e nb r V C hV h
  rw [ev_t0] at h
  rcases bnd_some h with ⟨x, hx, rfl⟩ | ⟨e1, n1, c1, hx, h⟩
  · exact hB _ _ _ _ V C (teO_bo hV) hx
  · obtain ⟨Ta, Ca, a1, a2, a3, a4⟩ := hB _ _ _ _ V C (teO_bo hV) hx
    rcases bnd_some h with ⟨x, hy, rfl⟩ | ⟨e2, n2, c2, hy, h⟩
    · exact Tns_trans a1 (hL _ _ _ _ Ta V _ (an_ao a2) hV a4 hy)
    · cases h
      obtain ⟨T', C1, b1, b2, b3, b4, b5⟩ := hL _ _ _ _ Ta V _ (an_ao a2) hV a4 hy
      refine ⟨T', C1, Tns_trans a1 b1, b2, ?_, b4, b5⟩
      rw [b3, List.map_append, a3]
      simp [List.append_assoc]
theorem sim_tall (f : Nat) : SFa g k wh f ∧ SBo g k wh f ∧ SBl g k wh f ∧ STe g k wh f ∧ STl g k wh f := by
  induction f with
  | zero => exact ⟨fun op e nb r V C h => by simp [ev] at h, fun op e nb r V C _ h => by simp [ev] at h, fun op e nb r T V C _ _ h => by simp [ev] at h, fun op e nb r V C _ h => by simp [ev] at h, fun op e nb r T V C _ _ _ h => by simp [ev] at h⟩
  | succ f ih =>
    obtain ⟨a, b, c, d, e⟩ := ih
    exact ⟨sim_fa d a, sim_bo a c, sim_bl a c, sim_te b e, sim_tl b e⟩
/-- a test, all of it -/
theorem sim_test {f op e : Nat} {nb : Bool} {C : List Nat} {r : Rz} (h : ev g k wh f 0 op e nb = some r) : match r with
  | .inl (e', nb', cs) => ∃ T C1, Tns g k wh (0, e, nb, op, [], C) (2, e', nb', op, T, C1) ∧ aoT T ∧ C1 ++ T = C ++ cs.map qc ∧ ¬ isWd g k e' nb' 26 ∧ ¬ isWd g k e' nb' 25
  | .inr (a, p) => Tns g k wh (0, e, nb, op, [], C) (Flt a p) := by
  have a := (sim_tall (g := g) (k := k) (wh := wh) f).2.2.2.1 op e nb r [] C (Or.inl rfl) h
  rcases r with ⟨e', nb', cs⟩ | ⟨p, q⟩
  · obtain ⟨T, C1, a1, a2⟩ := a
    rw [List.append_nil] at a1
    exact ⟨T, C1, a1, a2⟩
  · exact a
end

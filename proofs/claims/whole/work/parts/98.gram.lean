/-! SUMS and TESTS read, purely: as the class does it -/
abbrev Rz : Type := (Nat × Bool × List Nat) ⊕ (Nat × Nat)
def bnd (r : Option Rz) (F : Nat → Bool → List Nat → Option Rz) : Option Rz := match r with
  | none => none
  | some (.inr x) => some (.inr x)
  | some (.inl (e, nb, cs)) => F e nb cs
theorem bnd_some {r : Option Rz} {F : Nat → Bool → List Nat → Option Rz} {y : Rz} (h : bnd r F = some y) : (∃ x, r = some (.inr x) ∧ y = .inr x) ∨ ∃ e nb cs, r = some (.inl (e, nb, cs)) ∧ F e nb cs = some y := by
  unfold bnd at h
  split at h
  · cases h
  · rename_i x; exact Or.inl ⟨x, rfl, by simpa using h.symm⟩
  · rename_i e nb cs; exact Or.inr ⟨e, nb, cs, rfl, h⟩
def askd (wh : Nat) (w : Int) : Prop := ((w = 22 ∨ w = 23) ∧ ¬ wh = 0) ∨ (w = 30 ∧ wh = 2)
def alon (wh : Nat) (w : Int) : Prop := (w = 16 ∨ w = 17) ∨ ((w = 18 ∨ w = 19 ∨ w = 20 ∨ w = 21) ∧ wh = 0) ∨ (w = 29 ∧ wh = 2)
/-- tags: 0 test, 1 its loop, 2 both, 3 its loop, 4 fact, 5 sum, 6 its loop, 7 product, 8 its loop, 9 part -/
noncomputable def ev (g : Int → Int) (k wh : Nat) : Nat → Nat → Nat → Nat → Bool → Option Rz
  | 0, _, _, _, _ => none
  | f + 1, tag, op, e, nb =>
    let P := skp g k e
    let Q := tkQ g k e
    let nx := nxB g k e nb
    match tag with
    | 0 => bnd (ev g k wh f 2 op e nb) fun e1 nb1 cs => bnd (ev g k wh f 1 op e1 nb1) fun e2 nb2 cs2 => some (.inl (e2, nb2, cs ++ cs2))
    | 1 => @ite _ (isWd g k e nb 25) (Classical.propDecidable _) (bnd (ev g k wh f 2 op Q nx) fun e1 nb1 cs => bnd (ev g k wh f 1 op e1 nb1) fun e2 nb2 cs2 => some (.inl (e2, nb2, cs ++ 25 :: cs2))) (some (.inl (e, nb, [])))
    | 2 => bnd (ev g k wh f 4 op e nb) fun e1 nb1 cs => bnd (ev g k wh f 3 op e1 nb1) fun e2 nb2 cs2 => some (.inl (e2, nb2, cs ++ cs2))
    | 3 => @ite _ (isWd g k e nb 26) (Classical.propDecidable _) (bnd (ev g k wh f 4 op Q nx) fun e1 nb1 cs => bnd (ev g k wh f 3 op e1 nb1) fun e2 nb2 cs2 => some (.inl (e2, nb2, cs ++ 26 :: cs2))) (some (.inl (e, nb, [])))
    | 4 => @ite _ (isWd g k e nb 24) (Classical.propDecidable _) (if 6 ≤ op then some (.inr (4, P)) else bnd (ev g k wh f 4 (op + 1) Q nx) fun e1 nb1 cs => some (.inl (e1, nb1, cs ++ [24])))
      (@ite _ (isSg g k e 91) (Classical.propDecidable _) (if 6 ≤ op then some (.inr (4, P)) else bnd (ev g k wh f 0 (op + 1) Q nx) fun e1 nb1 cs => @ite _ (isSg g k e1 93) (Classical.propDecidable _) (some (.inl (tkQ g k e1, nxB g k e1 nb1, cs))) (some (.inr (1, skp g k e1))))
      (@ite _ (isWd g k e nb 15) (Classical.propDecidable _) (some (.inl (Q, nx, [15])))
      (bnd (ev g k wh f 5 op e nb) fun e1 nb1 cs => @ite _ (isSg g k e1 60 ∨ isSg g k e1 62 ∨ isSg g k e1 61) (Classical.propDecidable _) (bnd (ev g k wh f 5 op (tkQ g k e1) (nxB g k e1 nb1)) fun e2 nb2 cs2 => some (.inl (e2, nb2, cs ++ cs2 ++ [(vaF g k e1).toNat]))) (some (.inr (1, skp g k e1))))))
    | 5 => bnd (ev g k wh f 7 op e nb) fun e1 nb1 cs => bnd (ev g k wh f 6 op e1 nb1) fun e2 nb2 cs2 => some (.inl (e2, nb2, cs ++ cs2))
    | 6 => @ite _ (isSg g k e 43 ∨ isSg g k e 45) (Classical.propDecidable _) (bnd (ev g k wh f 7 op Q nx) fun e1 nb1 cs => bnd (ev g k wh f 6 op e1 nb1) fun e2 nb2 cs2 => some (.inl (e2, nb2, cs ++ (vaF g k e).toNat :: cs2))) (some (.inl (e, nb, [])))
    | 7 => bnd (ev g k wh f 9 op e nb) fun e1 nb1 cs => bnd (ev g k wh f 8 op e1 nb1) fun e2 nb2 cs2 => some (.inl (e2, nb2, cs ++ cs2))
    | 8 => @ite _ (isSg g k e 42 ∨ isSg g k e 47) (Classical.propDecidable _) (bnd (ev g k wh f 9 op Q nx) fun e1 nb1 cs => bnd (ev g k wh f 8 op e1 nb1) fun e2 nb2 cs2 => some (.inl (e2, nb2, cs ++ (vaF g k e).toNat :: cs2))) (some (.inl (e, nb, [])))
    | 9 => if tkJ g k e nb = 2 then (if Q - P ≤ 4 then some (.inl (Q, nx, [256 + (vaF g k e).toNat])) else some (.inr (1, P + 4)))
      else @ite _ (isSg g k e 40) (Classical.propDecidable _) (if 6 ≤ op then some (.inr (4, P)) else bnd (ev g k wh f 5 (op + 1) Q nx) fun e1 nb1 cs => @ite _ (isSg g k e1 41) (Classical.propDecidable _) (some (.inl (tkQ g k e1, nxB g k e1 nb1, cs))) (some (.inr (1, skp g k e1))))
      (if ¬ tkJ g k e nb = 1 then some (.inr (1, P))
      else if tkW g k e = 27 ∨ tkW g k e = 28 then
        (@ite _ (isSg g k Q 40) (Classical.propDecidable _) (if 6 ≤ op then some (.inr (4, skp g k Q)) else bnd (ev g k wh f 5 (op + 1) (tkQ g k Q) (nxB g k Q nx)) fun e1 nb1 cs => @ite _ (isSg g k e1 44) (Classical.propDecidable _) (bnd (ev g k wh f 5 (op + 1) (tkQ g k e1) (nxB g k e1 nb1)) fun e2 nb2 cs2 => @ite _ (isSg g k e2 41) (Classical.propDecidable _) (some (.inl (tkQ g k e2, nxB g k e2 nb2, cs ++ cs2 ++ [(tkW g k e).toNat]))) (some (.inr (1, skp g k e2)))) (some (.inr (1, skp g k e1)))) (some (.inr (1, skp g k Q))))
      else @ite _ (askd wh (tkW g k e)) (Classical.propDecidable _) (if 6 ≤ op then some (.inr (4, P)) else bnd (ev g k wh f 9 (op + 1) Q nx) fun e1 nb1 cs => some (.inl (e1, nb1, cs ++ [(tkW g k e).toNat])))
      (@ite _ (alon wh (tkW g k e)) (Classical.propDecidable _) (some (.inl (Q, nx, [(tkW g k e).toNat]))) (some (.inr (1, P)))))
    | _ => none
theorem nx_step {g : Int → Int} {k e : Nat} (he : e ≤ k) (h : ¬ tkK g k e = 0) : e < tkQ g k e ∧ tkQ g k e ≤ k := by
  obtain ⟨s1, s2, -⟩ := skp_prop (g := g) he
  obtain ⟨t1, t2, t3⟩ := tkQ_prop (g := g) he
  have hs : skp g k e < k := Classical.not_not.mp (fun q => h (tkK_0.mpr q))
  have := (t3 hs).1
  omega
theorem Wd_K {g : Int → Int} {k e : Nat} {nb : Bool} {w : Int} (h : isWd g k e nb w) : tkK g k e = 1 := by
  rw [← tkJ_K (nb := nb) (by rw [h.1]; omega)]
  exact h.1
theorem Sg_K {g : Int → Int} {k e : Nat} {w : Int} (h : isSg g k e w) : tkK g k e = 3 := h.1
theorem J_K {g : Int → Int} {k e j : Nat} {nb : Bool} (h : tkJ g k e nb = j) (hj : ¬ j = 4) : tkK g k e = j := by
  rw [← tkJ_K (nb := nb) (by omega)]
  exact h
/-- what is read is gone past; codes are no more than bytes -/
theorem ev_len {g : Int → Int} {k wh : Nat} : ∀ {f tag op e : Nat} {nb : Bool} {e' : Nat} {nb' : Bool} {cs : List Nat}, ev g k wh f tag op e nb = some (.inl (e', nb', cs)) → e ≤ k → e' ≤ k ∧ e + cs.length ≤ e' ∧ ((tag = 0 ∨ tag = 2 ∨ tag = 4 ∨ tag = 5 ∨ tag = 7 ∨ tag = 9) → e < e') := by
  intro f
  induction f with
  | zero => intro tag op e nb e' nb' cs h; simp [ev] at h
  | succ f ih =>
    have seq : ∀ {a b op e nb e' nb' cs}, (a = 0 ∨ a = 2 ∨ a = 4 ∨ a = 5 ∨ a = 7 ∨ a = 9) → (bnd (ev g k wh f a op e nb) fun e1 nb1 cs => bnd (ev g k wh f b op e1 nb1) fun e2 nb2 cs2 => some (.inl (e2, nb2, cs ++ cs2))) = some (.inl (e', nb', cs)) → e ≤ k → e' ≤ k ∧ e + cs.length ≤ e' ∧ e < e' := by
      intro a b op e nb e' nb' cs ha h he
      rcases bnd_some h with ⟨x, -, h2⟩ | ⟨e1, n1, c1, h1, h⟩
      · cases h2
      · rcases bnd_some h with ⟨x, -, h2⟩ | ⟨e2, n2, c2, h2, h⟩
        · cases h2
        · cases h
          have a1 := ih h1 he
          have a2 := ih h2 a1.1
          rw [List.length_append]
          have := a1.2.2 ha
          omega
    have lop : ∀ {a b op e nb e' nb' cs} {v : Nat}, (bnd (ev g k wh f a op (tkQ g k e) (nxB g k e nb)) fun e1 nb1 cs => bnd (ev g k wh f b op e1 nb1) fun e2 nb2 cs2 => some (.inl (e2, nb2, cs ++ v :: cs2))) = some (.inl (e', nb', cs)) → e ≤ k → ¬ tkK g k e = 0 → e' ≤ k ∧ e + cs.length ≤ e' := by
      intro a b op e nb e' nb' cs v h he hK
      have hn := nx_step (g := g) he hK
      rcases bnd_some h with ⟨x, -, h2⟩ | ⟨e1, n1, c1, h1, h⟩
      · cases h2
      · rcases bnd_some h with ⟨x, -, h2⟩ | ⟨e2, n2, c2, h2, h⟩
        · cases h2
        · cases h
          have a1 := ih h1 hn.2
          have a2 := ih h2 a1.1
          rw [List.length_append, List.length_cons]
          omega
    intro tag op e nb e' nb' cs h he
    unfold ev at h
    dsimp only at h
    split at h
    · have := seq (by omega) h he; exact ⟨this.1, this.2.1, fun _ => this.2.2⟩
    · split at h
      · rename_i q
        have := lop h he (by have := Wd_K q; omega)
        exact ⟨this.1, this.2, fun h => by omega⟩
      · cases h; exact ⟨he, by simp, fun h => by omega⟩
    · have := seq (by omega) h he; exact ⟨this.1, this.2.1, fun _ => this.2.2⟩
    · split at h
      · rename_i q
        have := lop h he (by have := Wd_K q; omega)
        exact ⟨this.1, this.2, fun h => by omega⟩
      · cases h; exact ⟨he, by simp, fun h => by omega⟩
    · split at h
      · rename_i q
        have hn := nx_step (g := g) he (by have := Wd_K q; omega)
        split at h
        · cases h
        · rcases bnd_some h with ⟨x, -, h2⟩ | ⟨e1, n1, c1, h1, h⟩
          · cases h2
          · cases h
            have a1 := ih h1 hn.2
            rw [List.length_append]
            simp only [List.length_cons, List.length_nil]
            omega
      · split at h
        · rename_i q
          have hn := nx_step (g := g) he (by have := Sg_K q; omega)
          split at h
          · cases h
          · rcases bnd_some h with ⟨x, -, h2⟩ | ⟨e1, n1, c1, h1, h⟩
            · cases h2
            · have a1 := ih h1 hn.2
              split at h
              · rename_i q2
                have hn2 := nx_step (g := g) a1.1 (by have := Sg_K q2; omega)
                cases h
                omega
              · cases h
        · split at h
          · rename_i q
            have hn := nx_step (g := g) he (by have := Wd_K q; omega)
            cases h
            simp only [List.length_cons, List.length_nil]
            omega
          · rcases bnd_some h with ⟨x, -, h2⟩ | ⟨e1, n1, c1, h1, h⟩
            · cases h2
            · have a1 := ih h1 he
              split at h
              · rename_i q2
                have hn2 := nx_step (g := g) a1.1 (by rcases q2 with q2 | q2 | q2 <;> (have := Sg_K q2; omega))
                rcases bnd_some h with ⟨x, -, h2⟩ | ⟨e2, n2, c2, h2, h⟩
                · cases h2
                · cases h
                  have a2 := ih h2 hn2.2
                  simp only [List.length_append, List.length_cons, List.length_nil]
                  omega
              · cases h
    · have := seq (by omega) h he; exact ⟨this.1, this.2.1, fun _ => this.2.2⟩
    · split at h
      · rename_i q
        have := lop h he (by rcases q with q | q <;> (have := Sg_K q; omega))
        exact ⟨this.1, this.2, fun h => by omega⟩
      · cases h; exact ⟨he, by simp, fun h => by omega⟩
    · have := seq (by omega) h he; exact ⟨this.1, this.2.1, fun _ => this.2.2⟩
    · split at h
      · rename_i q
        have := lop h he (by rcases q with q | q <;> (have := Sg_K q; omega))
        exact ⟨this.1, this.2, fun h => by omega⟩
      · cases h; exact ⟨he, by simp, fun h => by omega⟩
    · split at h
      · rename_i q
        have hn := nx_step (g := g) he (by have := J_K q (by omega); omega)
        split at h
        · cases h
          simp only [List.length_cons, List.length_nil]
          omega
        · cases h
      · split at h
        · rename_i q
          have hn := nx_step (g := g) he (by have := Sg_K q; omega)
          split at h
          · cases h
          · rcases bnd_some h with ⟨x, -, h2⟩ | ⟨e1, n1, c1, h1, h⟩
            · cases h2
            · have a1 := ih h1 hn.2
              split at h
              · rename_i q2
                have hn2 := nx_step (g := g) a1.1 (by have := Sg_K q2; omega)
                cases h
                omega
              · cases h
        · split at h
          · cases h
          · rename_i q
            have q := Classical.not_not.mp q
            have hn := nx_step (g := g) he (by have := J_K q (by omega); omega)
            split at h
            · split at h
              · rename_i q2
                have hn2 := nx_step (g := g) hn.2 (by have := Sg_K q2; omega)
                split at h
                · cases h
                · rcases bnd_some h with ⟨x, -, h2⟩ | ⟨e1, n1, c1, h1, h⟩
                  · cases h2
                  · have a1 := ih h1 hn2.2
                    split at h
                    · rename_i q3
                      have hn3 := nx_step (g := g) a1.1 (by have := Sg_K q3; omega)
                      rcases bnd_some h with ⟨x, -, h2⟩ | ⟨e2, n2, c2, h2, h⟩
                      · cases h2
                      · have a2 := ih h2 hn3.2
                        split at h
                        · rename_i q4
                          have hn4 := nx_step (g := g) a2.1 (by have := Sg_K q4; omega)
                          cases h
                          simp only [List.length_append, List.length_cons, List.length_nil]
                          omega
                        · cases h
                    · cases h
              · cases h
            · split at h
              · split at h
                · cases h
                · rcases bnd_some h with ⟨x, -, h2⟩ | ⟨e1, n1, c1, h1, h⟩
                  · cases h2
                  · cases h
                    have a1 := ih h1 hn.2
                    simp only [List.length_append, List.length_cons, List.length_nil]
                    omega
              · split at h
                · cases h
                  simp only [List.length_cons, List.length_nil]
                  omega
                · cases h
    · cases h

/-- an instruction ends a method only if it is a return; the cells grow, never shrink -/
def gro (h : Hp) : Cf ⊕ Rs → Prop
  | .inl cf => hle h cf.2.2.2
  | .inr r => False
theorem gro_nx {pc : Nat} {l : Lo} {st : List Value} {h h' : Hp} {z : Cf ⊕ Rs} (hh : hle h h') (hs : nx pc l st h' = some z) : gro h z := by
  cases hs
  exact hh
theorem gro_bind {α : Type} {x : Option α} {f : α → Ot} {h : Hp} {z : Cf ⊕ Rs} (hf : ∀ a, f a = some z → gro h z) (hs : x.bind f = some z) : gro h z := by
  obtain ⟨a, -, ha⟩ := Option.bind_eq_some_iff.mp hs
  exact hf a ha
theorem gro_if {P : Prop} [Decidable P] {a b : Ot} {h : Hp} {z : Cf ⊕ Rs} (ha : a = some z → gro h z) (hb : b = some z → gro h z) (hs : (if P then a else b) = some z) : gro h z := by
  by_cases hp : P
  · rw [if_pos hp] at hs; exact ha hs
  · rw [if_neg hp] at hs; exact hb hs
theorem gro_none {h : Hp} {z : Cf ⊕ Rs} (hs : (none : Ot) = some z) : gro h z := by cases hs
theorem gro_calls {call : Nat → List Value → Hp → Option Rs} (hc : ∀ y av h r, call y av h = some r → hle h r.2) {kind y n pc : Nat} {l : Lo} {st : List Value} {h : Hp} {z : Cf ⊕ Rs} (hs : calls call kind y n pc l st h = some z) : gro h z := by
  have hr := hle.rf h
  have hg : ∀ f : Nat → AC, hle h (h.1, h.2.1, f) := fun f => hle.rf h
  unfold calls at hs
  dsimp only at hs
  generalize hq : (if kind = 1 ∨ kind = 5 then n else n + 1) = q at hs
  repeat' first
    | exact gro_none hs
    | exact gro_nx hr hs
    | exact gro_nx (hg _) hs
    | exact gro_bind (fun _ hs => gro_nx (hg _) hs) hs
    | (obtain ⟨a, h1, ha⟩ := Option.bind_eq_some_iff.mp hs
       exact gro_nx (hc _ _ _ _ h1) ha)
    | split at hs
theorem istep_gro {call : Nat → List Value → Hp → Option Rs} (hc : ∀ y av h r, call y av h = some r → hle h r.2) {o : Nat} {rt : Option FieldType} {ini : Bool} {nL len pc : Nat} {l : Lo} {st : List Value} {h : Hp} {z : Cf ⊕ Rs} {i : Instr} (hs : istep call o rt ini nL len pc l st h i = some z) : gro h z ∨ (i = .ireturn ∨ i = .lreturn ∨ i = .return_) := by
  have hr := hle.rf h
  have hg : ∀ (a b : Nat) (f : Nat → AC), hle h (h.1 + a, h.2.1 + b, f) := fun a b f => ⟨Nat.le_add_right _ _, Nat.le_add_right _ _⟩
  have hg2 : ∀ f : Nat → AC, hle h (h.1, h.2.1, f) := fun f => hle.rf h
  cases i <;> first
    | exact Or.inr (Or.inl rfl)
    | exact Or.inr (Or.inr (Or.inl rfl))
    | exact Or.inr (Or.inr (Or.inr rfl))
    | exact Or.inl (gro_none hs)
    | (left
       simp only [istep, aldv, ildv, lldv, istv, lstv, astv, ibin, lbin, iun, ibr1, ibr2] at hs
       repeat' first
         | exact gro_none hs
         | exact gro_nx hr hs
         | exact gro_nx (hg _ _ _) hs
         | exact gro_nx (hg2 _) hs
         | exact gro_calls hc hs
         | refine gro_bind (fun _ hs => ?_) hs
         | split at hs)

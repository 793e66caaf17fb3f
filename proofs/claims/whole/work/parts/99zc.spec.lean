/-! a town told, purely -/
abbrev Ps : Type := Nat × Bool
abbrev BT : Type := TT × (Nat → Nat → List Nat) × (Int → Int → Int) × (Int → Int)
abbrev Fz : Type := Nat × Nat
def bz {α β : Type} (r : α ⊕ Fz) (F : α → β ⊕ Fz) : β ⊕ Fz := match r with
  | .inl a => F a
  | .inr x => .inr x
theorem bz_cases {α β : Type} (r : α ⊕ Fz) (F : α → β ⊕ Fz) : (∃ a, r = .inl a ∧ bz r F = F a) ∨ ∃ x, r = .inr x ∧ bz r F = .inr x := by
  cases r with
  | inl a => exact Or.inl ⟨a, rfl, rfl⟩
  | inr x => exact Or.inr ⟨x, rfl, rfl⟩
/-- letters alone -/
def ltr (L : List Nat) : Prop := ∀ c ∈ L, 1 ≤ c ∧ c ≤ 26
theorem pkC_inj : ∀ {A B : List Nat}, ltr A → ltr B → pkC A = pkC B → A = B := by
  intro A
  induction A with
  | nil =>
    intro B _ hB h
    cases B with
    | nil => rfl
    | cons c r =>
      have := hB c (by simp)
      simp only [pkC] at h
      omega
  | cons a A ih =>
    intro B hA hB h
    have ha := hA a (by simp)
    cases B with
    | nil =>
      simp only [pkC] at h
      omega
    | cons b B =>
      have hb := hB b (by simp)
      simp only [pkC] at h
      have e : a = b := by omega
      subst e
      have e2 := ih (B := B) (fun c hc => hA c (List.mem_cons_of_mem _ hc)) (fun c hc => hB c (List.mem_cons_of_mem _ hc)) (by omega)
      rw [e2]
def pkR : List Nat → Nat
  | [] => 0
  | c :: r => 27 * pkR r + c
theorem pkF_R : ∀ (L r : List Nat), pkF (pkR r) L = pkR (L.reverse ++ r) := by
  intro L
  induction L with
  | nil => intro r; rfl
  | cons c L ih =>
    intro r
    have := ih (c :: r)
    rw [List.reverse_cons, List.append_assoc]
    exact this
theorem pkR_inj : ∀ {A B : List Nat}, ltr A → ltr B → pkR A = pkR B → A = B := by
  intro A
  induction A with
  | nil =>
    intro B _ hB h
    cases B with
    | nil => rfl
    | cons c r =>
      have := hB c (by simp)
      simp only [pkR] at h
      omega
  | cons a A ih =>
    intro B hA hB h
    have ha := hA a (by simp)
    cases B with
    | nil =>
      simp only [pkR] at h
      omega
    | cons b B =>
      have hb := hB b (by simp)
      simp only [pkR] at h
      have e : a = b := by omega
      subst e
      have e2 := ih (B := B) (fun c hc => hA c (List.mem_cons_of_mem _ hc)) (fun c hc => hB c (List.mem_cons_of_mem _ hc)) (by omega)
      rw [e2]
theorem pkF_inj {A B : List Nat} (hA : ltr A) (hB : ltr B) (h : pkF 0 A = pkF 0 B) : A = B := by
  have e1 := pkF_R A []
  have e2 := pkF_R B []
  rw [List.append_nil] at e1 e2
  have h' : pkR A.reverse = pkR B.reverse := by rw [← e1, ← e2]; exact h
  have := pkR_inj (fun c hc => hA c (List.mem_reverse.mp hc)) (fun c hc => hB c (List.mem_reverse.mp hc)) h'
  rw [← List.reverse_reverse A, this, List.reverse_reverse]
theorem pkF_snoc : ∀ (L : List Nat) (a c : Nat), pkF a (L ++ [c]) = 27 * pkF a L + c := by
  intro L
  induction L with
  | nil => intro a c; rfl
  | cons x L ih => intro a c; exact ih _ c
/-- the first of some names -/
def fnd (N : Nat → List Nat) (L : List Nat) : Nat → Option Nat
  | 0 => none
  | c + 1 => match fnd N L c with
    | some j => some j
    | none => if N c = L then some c else none
theorem fnd_none {N : Nat → List Nat} {L : List Nat} : ∀ {c : Nat}, (∀ i, i < c → ¬ N i = L) → fnd N L c = none := by
  intro c
  induction c with
  | zero => intro _; rfl
  | succ c ih =>
    intro h
    simp only [fnd, ih (fun i hi => h i (by omega))]
    rw [if_neg (h c (by omega))]
theorem fnd_some {N : Nat → List Nat} {L : List Nat} {D : Nat} (h1 : N D = L) (h2 : ∀ i, i < D → ¬ N i = L) : ∀ {c : Nat}, D < c → fnd N L c = some D := by
  intro c
  induction c with
  | zero => intro h; omega
  | succ c ih =>
    intro h
    by_cases q : D < c
    · simp only [fnd, ih q]
    · have e : D = c := by omega
      subst e
      simp only [fnd, fnd_none h2]
      rw [if_pos h1]
theorem fnd_lt {N : Nat → List Nat} {L : List Nat} : ∀ {c j : Nat}, fnd N L c = some j → j < c := by
  intro c
  induction c with
  | zero => intro j h; cases h
  | succ c ih =>
    intro j h
    simp only [fnd] at h
    split at h
    · rename_i i hi
      cases h
      have := ih hi
      omega
    · split at h
      · cases h; omega
      · cases h
def fdV (o : Option Nat) : Int := match o with
  | some j => j
  | none => -1
/-- one more of a kind -/
def incK (kind : Nat) (T : TT) : TT := ((if kind = 0 then nm T + 1 else nm T, if kind = 1 then np T + 1 else np T, if kind = 2 then nl T + 1 else nl T, ne T, if kind = 3 then nd T + 1 else nd T), T.2)
def adN (kind : Nat) (L : List Nat) (B : BT) : BT := (incK kind B.1, (fun a j => if a = kind ∧ j = cntK B.1 kind then L else B.2.1 a j), B.2.2)
def hasN (B : BT) (L : List Nat) : Prop := ∃ kind, kind < 4 ∧ ¬ fnd (B.2.1 kind) L (cntK B.1 kind) = none
def kI (kind : Nat) : Nat := if kind = 3 then 4 else kind
def mxK (kind : Nat) : Nat := if kind = 0 then 4 else if kind = 1 then 8 else 6
section
variable (g : Int → Int) (k : Nat)
def nxP (p : Ps) : Ps := (tkQ g k p.1, nxB g k p.1 p.2)
noncomputable def nmF (p : Ps) : (List Nat × Ps) ⊕ Fz := if tkJ g k p.1 p.2 = 1 ∧ ¬ (0 ≤ tkW g k p.1 ∧ tkW g k p.1 < 29) then (if tkQ g k p.1 - skp g k p.1 ≤ 6 then .inl (ltL g (skp g k p.1) (tkQ g k p.1 - skp g k p.1), nxP g k p) else .inr (1, skp g k p.1 + 6)) else .inr (1, skp g k p.1)
def nuF (hi : Int) (p : Ps) : (Int × Ps) ⊕ Fz := if tkJ g k p.1 p.2 = 2 then (if tkQ g k p.1 - skp g k p.1 ≤ 4 then (if nuV g k p.1 ≤ hi then .inl (nuV g k p.1, nxP g k p) else .inr (2, skp g k p.1)) else .inr (1, skp g k p.1 + 4)) else .inr (1, skp g k p.1)
noncomputable def wdT (w : Int) (p : Ps) : Ps ⊕ Fz := @ite _ (isWd g k p.1 p.2 w) (Classical.propDecidable _) (.inl (nxP g k p)) (.inr (1, skp g k p.1))
noncomputable def sgT (c : Int) (p : Ps) : Ps ⊕ Fz := @ite _ (isSg g k p.1 c) (Classical.propDecidable _) (.inl (nxP g k p)) (.inr (1, skp g k p.1))
/-- a SUM (tag 5), a TEST (tag 0) -/
noncomputable def evX (wh tag : Nat) (p : Ps) : Rz := (ev g k wh (8 * k + 20) tag 0 p.1 p.2).getD (.inr (1, 0))
noncomputable def newF (kind : Nat) (p : Ps) (B : BT) : (List Nat × Ps) ⊕ Fz := if mxK kind ≤ cntK B.1 kind then .inr (5, skp g k p.1) else bz (nmF g k (nxP g k p)) fun x => @ite _ (hasN B x.1) (Classical.propDecidable _) (.inr (3, skp g k (tkQ g k p.1))) (.inl x)
noncomputable def onF (kind : Nat) (p : Ps) (B : BT) : (Nat × Ps) ⊕ Fz := bz (nmF g k p) fun x => match fnd (B.2.1 kind) x.1 (cntK B.1 kind) with
  | none => .inr (3, skp g k p.1)
  | some j => .inl (j, x.2)
def natF (pe : Int) : Nat → Nat → Ps → (Int → Int → Int) → (Ps × (Int → Int → Int)) ⊕ Fz
  | 0, _, p, N => .inl (p, N)
  | r + 1, m, p, N => bz (nuF g k 99 p) fun x => natF pe r (m + 1) x.2 (fun a b => if a = pe ∧ b = m then x.1 else N a b)
noncomputable def knF (B : BT) : Nat → Int → Ps → (Ps × Int) ⊕ Fz
  | 0, _, p => .inr (5, skp g k p.1)
  | r + 1, who, p => bz (onF g k 1 p B) fun x => if bt who x.1 = 1 then .inr (3, skp g k p.1) else (if tkJ g k x.2.1 x.2.2 = 1 then knF B r (who + 2 ^ x.1) x.2 else .inl (x.2, who + 2 ^ x.1))
end
def setP (N : Int → Int → Int) (B : BT) : BT := (B.1, B.2.1, N, B.2.2.2)
def setLf (l lv who : Int) (B : BT) : BT := ((B.1.1, ((fun i => if i = l then lv else tlv B.1 i), B.1.2.1.2), B.1.2.2), B.2.1, B.2.2.1, fun i => if i = l then who else B.2.2.2 i)
def addM (a l c : Int) (B : BT) : BT := (((nm B.1, np B.1, nl B.1, ne B.1 + 1, nd B.1), (tlv B.1, (fun i => if i = ne B.1 then a else tea B.1 i), (fun i => if i = ne B.1 then l else ten B.1 i), (fun i => if i = ne B.1 then c else tmc B.1 i)), B.1.2.2), B.2)
def setC (j : Nat) (cs : List Nat) (B : BT) : BT := ((B.1.1, B.1.2.1, (fun i => if i = j then cs else tc B.1 i), B.1.2.2.2), B.2)
def setS (w v : Int) (B : BT) : BT := ((B.1.1, B.1.2.1, tc B.1, ((if w = 12 then v else tbak B.1), (if w = 13 then v else tev B.1), (if w = 14 then v else twh B.1))), B.2)
section
variable (g : Int → Int) (k : Nat)
noncomputable def moF (p : Ps) (B : BT) : (Ps × BT) ⊕ Fz := if 0 < np B.1 then .inr (5, skp g k p.1) else bz (newF g k 0 p B) fun x => .inl (x.2, adN 0 x.1 B)
noncomputable def peF (p : Ps) (B : BT) : (Ps × BT) ⊕ Fz := bz (newF g k 1 p B) fun x => bz (wdT g k 2 x.2) fun q => bz (natF g k (np B.1) (nm B.1) 0 q B.2.2.1) fun y => .inl (y.1, setP y.2 (adN 1 x.1 B))
noncomputable def loF (p : Ps) (B : BT) : (Ps × BT) ⊕ Fz := bz (newF g k 2 p B) fun x => bz (wdT g k 4 x.2) fun q => bz (nuF g k 100 q) fun y => bz (wdT g k 5 y.2) fun q => bz (knF g k B 3 0 q) fun u => .inl (u.1, setLf (nl B.1) y.1 u.2 (adN 2 x.1 B))
noncomputable def meF (p : Ps) (B : BT) : (Ps × BT) ⊕ Fz := if 16 ≤ ne B.1 then .inr (5, skp g k p.1) else bz (onF g k 1 (nxP g k p) B) fun x => bz (onF g k 2 x.2 B) fun y => bz (wdT g k 7 y.2) fun q => bz (nuF g k 23 q) fun u => .inl (u.2, addM x.1 y.1 u.1 B)
noncomputable def deF (p : Ps) (B : BT) : (Ps × BT) ⊕ Fz := bz (newF g k 3 p B) fun x => bz (wdT g k 9 x.2) fun q => bz (evX g k 1 0 q) fun u => .inl ((u.1, u.2.1), setC (nd B.1) u.2.2 (adN 3 x.1 B))
noncomputable def ocF (j : Nat) (p : Ps) (B : BT) : (Ps × BT) ⊕ Fz := if ¬ tc B.1 j = [] then .inr (5, skp g k p.1) else bz (evX g k 0 5 (nxP g k p)) fun u => .inl ((u.1, u.2.1), setC j u.2.2 B)
noncomputable def seF (w : Int) (p : Ps) (B : BT) : (Ps × BT) ⊕ Fz := bz (nuF g k (if w = 14 then 99 else 23) (nxP g k p)) fun u => .inl (u.2, setS w u.1 B)
/-- the number of the word here -/
noncomputable def wHr (p : Ps) : Int := if tkJ g k p.1 p.2 = 1 then tkW g k p.1 else -1
noncomputable def bodF (p : Ps) (B : BT) : (Ps × BT) ⊕ Fz :=
  if wHr g k p = 0 then moF g k p B
  else if wHr g k p = 1 then peF g k p B
  else if wHr g k p = 3 then loF g k p B
  else if wHr g k p = 6 then meF g k p B
  else if wHr g k p = 8 then deF g k p B
  else if wHr g k p = 10 then ocF g k 6 p B
  else if wHr g k p = 11 then ocF g k 7 p B
  else if wHr g k p = 12 ∨ wHr g k p = 13 ∨ wHr g k p = 14 then seF g k (wHr g k p) p B
  else .inr (1, skp g k p.1)
noncomputable def stF (p : Ps) (B : BT) : (Ps × BT) ⊕ Fz := bz (bodF g k p B) fun x => bz (sgT g k 59 x.1) fun q => .inl (q, x.2)
noncomputable def twF : Nat → Ps → BT → (BT × Nat) ⊕ Fz
  | r, p, B => if tkK g k p.1 = 0 then .inl (B, r) else match r with
    | 0 => .inr (5, skp g k p.1)
    | r + 1 => bz (stF g k p B) fun x => twF r x.1 x.2
end
/-- an empty town -/
def B0 : BT := (((0, 0, 0, 0, 0), ((fun _ => 0), (fun _ => 0), (fun _ => 0), fun _ => 0), (fun _ => []), (5, 18, 0)), (fun _ _ => []), (fun _ _ => 0), fun _ => 0)
section
variable {g : Int → Int} {k : Nat}
theorem evX_eq {wh tag : Nat} {p : Ps} (ht : tag ≤ 9) (he : p.1 ≤ k) : ev g k wh (8 * k + 20) tag 0 p.1 p.2 = some (evX g k wh tag p) := by
  have hr : rkE tag ≤ 6 := by
    unfold rkE
    repeat' split
    all_goals omega
  obtain ⟨r, h⟩ := ev_tot (g := g) (k := k) (wh := wh) (8 * k + 20) tag 0 p.1 p.2 ht he (by omega)
  unfold evX
  rw [h]
  rfl
theorem nx_P {p : Ps} {j : Nat} (he : p.1 ≤ k) (h : tkJ g k p.1 p.2 = j) (h1 : 1 ≤ j) (hj : ¬ j = 4) : p.1 < (nxP g k p).1 ∧ (nxP g k p).1 ≤ k := nx_step (g := g) he (by have := J_K h hj; omega)
theorem nmF_in {p q : Ps} {L : List Nat} (he : p.1 ≤ k) (h : nmF g k p = .inl (L, q)) : q = nxP g k p ∧ p.1 < q.1 ∧ q.1 ≤ k ∧ wfL L ∧ tkJ g k p.1 p.2 = 1 ∧ L = ltL g (skp g k p.1) (tkQ g k p.1 - skp g k p.1) := by
  unfold nmF at h
  split at h
  · rename_i q1
    split at h
    · rename_i q2
      cases h
      have hn := nx_P he q1.1 (by omega) (by omega)
      refine ⟨rfl, hn.1, hn.2, ?_, q1.1, rfl⟩
      obtain ⟨s1, s2, s3, s4⟩ := skp_prop (g := g) he
      obtain ⟨t1, t2, t3⟩ := tkQ_prop (g := g) he
      have hK := J_K q1.1 (by omega)
      have k0 := tkK_0 (g := g) (k := k) (e := p.1)
      obtain ⟨t4, t5, -⟩ := t3 (by omega)
      refine ⟨by rw [ltL_len]; omega, ?_⟩
      exact lt_let (g := g) (p := skp g k p.1) (m := tkQ g k p.1 - skp g k p.1) (fun i h1 h2 => sort_1 (by rw [t5 i h1 (by omega), hK]))
    · cases h
  · cases h
theorem nuF_in {p q : Ps} {hi v : Int} (he : p.1 ≤ k) (h : nuF g k hi p = .inl (v, q)) : q = nxP g k p ∧ p.1 < q.1 ∧ q.1 ≤ k ∧ 0 ≤ v ∧ v ≤ hi := by
  unfold nuF at h
  split at h
  · rename_i q1
    split at h
    · rename_i q2
      split at h
      · rename_i q3
        cases h
        have hn := nx_P he q1 (by omega) (by omega)
        refine ⟨rfl, hn.1, hn.2, ?_, q3⟩
        obtain ⟨s1, s2, s3, s4⟩ := skp_prop (g := g) he
        obtain ⟨t1, t2, t3⟩ := tkQ_prop (g := g) he
        have hK := J_K q1 (by omega)
        have k0 := tkK_0 (g := g) (k := k) (e := p.1)
        obtain ⟨t4, t5, -⟩ := t3 (by omega)
        unfold nuV
        exact (dgV_rng (g := g) (p := skp g k p.1) (m := tkQ g k p.1 - skp g k p.1) q2 (fun i h1 h2 => sort_2 (by rw [t5 i h1 (by omega), hK]))).1
      · cases h
    · cases h
  · cases h
theorem wdT_in {p q : Ps} {w : Int} (he : p.1 ≤ k) (h : wdT g k w p = .inl q) : q = nxP g k p ∧ p.1 < q.1 ∧ q.1 ≤ k ∧ isWd g k p.1 p.2 w := by
  unfold wdT at h
  split at h
  · rename_i q1
    cases h
    have hn := nx_P he q1.1 (by omega) (by omega)
    exact ⟨rfl, hn.1, hn.2, q1⟩
  · cases h
theorem sgT_in {p q : Ps} {w : Int} (he : p.1 ≤ k) (h : sgT g k w p = .inl q) : q = nxP g k p ∧ p.1 < q.1 ∧ q.1 ≤ k ∧ isSg g k p.1 w := by
  unfold sgT at h
  split at h
  · rename_i q1
    cases h
    have hn := nx_step (g := g) he (by have := Sg_K q1; omega)
    exact ⟨rfl, hn.1, hn.2, q1⟩
  · cases h
theorem newF_in {kind : Nat} {p q : Ps} {B : BT} {L : List Nat} (he : p.1 ≤ k) (hj : tkJ g k p.1 p.2 = 1) (h : newF g k kind p B = .inl (L, q)) : p.1 < q.1 ∧ q.1 ≤ k ∧ wfL L ∧ cntK B.1 kind < mxK kind := by
  have hn := nx_P he hj (by omega) (by omega)
  unfold newF at h
  split at h
  · cases h
  · rename_i q1
    rcases bz_cases (nmF g k (nxP g k p)) (fun x => @ite _ (hasN B x.1) (Classical.propDecidable _) (.inr (3, skp g k (tkQ g k p.1))) (.inl x)) with ⟨a, h1, h2⟩ | ⟨x, h1, h2⟩
    · rw [h2] at h
      split at h
      · cases h
      · cases h
        have a1 := nmF_in hn.2 h1
        exact ⟨by omega, a1.2.2.1, a1.2.2.2.1, by omega⟩
    · rw [h2] at h
      cases h
theorem onF_in {kind j : Nat} {p q : Ps} {B : BT} (he : p.1 ≤ k) (h : onF g k kind p B = .inl (j, q)) : q = nxP g k p ∧ p.1 < q.1 ∧ q.1 ≤ k ∧ j < cntK B.1 kind ∧ tkJ g k p.1 p.2 = 1 := by
  unfold onF at h
  rcases bz_cases (nmF g k p) (fun x => match fnd (B.2.1 kind) x.1 (cntK B.1 kind) with
    | none => (.inr (3, skp g k p.1) : (Nat × Ps) ⊕ Fz)
    | some j => .inl (j, x.2)) with ⟨a, h1, h2⟩ | ⟨x, h1, h2⟩
  · rw [h2] at h
    have a1 := nmF_in he h1
    split at h
    · cases h
    · rename_i i hi
      cases h
      exact ⟨a1.1, a1.2.1, a1.2.2.1, fnd_lt hi, a1.2.2.2.2.1⟩
  · rw [h2] at h
    cases h
end

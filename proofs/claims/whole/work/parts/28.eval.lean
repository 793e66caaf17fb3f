/-! SUMS and TESTS by their codes, purely: a code is a row of numbers (the class' own steps) -/
def nee (c : Nat) : Nat := if c = 22 ∨ c = 23 ∨ c = 24 ∨ c = 30 then 1 else if c = 25 ∨ c = 26 ∨ c = 27 ∨ c = 28 ∨ c = 42 ∨ c = 43 ∨ c = 45 ∨ c = 47 ∨ c = 60 ∨ c = 61 ∨ c = 62 then 2 else 0
def clip (x : Int) : Int := max (-1000000) (min 1000000 x)
def joi (c : Nat) (a b : Int) : Int := if c = 25 then (if 0 < a + b then 1 else 0) else if c = 26 then a * b else if c = 27 then min a b else if c = 28 then max a b else if c = 43 then clip (a + b) else if c = 45 then clip (a - b) else if c = 42 then clip (a * b) else if c = 47 then (if b = 0 then 0 else a.fdiv b) else if c = 60 then (if a < b then 1 else 0) else if c = 62 then (if b < a then 1 else 0) else (if a = b then 1 else 0)
/-- one step, on a stack (the top first); al: what stands alone, ak: what is asked of a number -/
def evs (al : Nat → Int) (ak : Nat → Int → Int) (c : Nat) (st : List Int) : List Int :=
  if nee c = 2 then (match st with
    | b :: a :: r => joi c a b :: r
    | _ => st)
  else if nee c = 1 then (match st with
    | a :: r => (if c = 24 then 1 - a else ak c a) :: r
    | _ => st)
  else (if 256 ≤ c then ((c - 256 : Nat) : Int) else al c) :: st
def evc (al : Nat → Int) (ak : Nat → Int → Int) (cs : List Nat) (st : List Int) : List Int := cs.foldl (fun s c => evs al ak c s) st
/-- what may stand alone, be asked, where (0 turn and night, 1 deeds, 2 questions) -/
def alw (w c : Nat) : Bool := c == 16 || c == 17 || (w == 0 && (c == 18 || c == 19 || c == 20 || c == 21)) || (w == 2 && c == 29)
def akw (w c : Nat) : Bool := (decide (0 < w) && (c == 22 || c == 23)) || (w == 2 && c == 30)
def ty2 (u v : Bool) : List Bool → Option (List Bool)
  | x :: y :: r => if x = u ∧ y = u then some (v :: r) else none
  | _ => none
def ty1 (u : Bool) : List Bool → Option (List Bool)
  | x :: r => if x = u then some (u :: r) else none
  | _ => none
def ty0 (u : Bool) (ts : List Bool) : Option (List Bool) := if ts.length < 64 then some (u :: ts) else none
/-- one step, by its kinds: TESTS are true, SUMS false -/
def tyc (w c : Nat) (ts : List Bool) : Option (List Bool) :=
  if c = 25 ∨ c = 26 then ty2 true true ts
  else if c = 27 ∨ c = 28 ∨ c = 42 ∨ c = 43 ∨ c = 45 ∨ c = 47 then ty2 false false ts
  else if c = 60 ∨ c = 61 ∨ c = 62 then ty2 false true ts
  else if c = 24 then ty1 true ts
  else if akw w c = true then ty1 false ts
  else if c = 15 then ty0 true ts
  else if (256 ≤ c ∧ c < 10256) ∨ alw w c = true then ty0 false ts
  else none
def tycs (w : Nat) : List Nat → List Bool → Option (List Bool)
  | [], ts => some ts
  | c :: r, ts => (tyc w c ts).bind (tycs w r)
theorem tycs_app (w : Nat) (a b : List Nat) (ts : List Bool) : tycs w (a ++ b) ts = (tycs w a ts).bind (tycs w b) := by
  induction a generalizing ts with
  | nil => rfl
  | cons c r ih =>
    simp only [List.cons_append, tycs]
    cases tyc w c ts with
    | none => rfl
    | some t => exact ih t
theorem evc_app (al : Nat → Int) (ak : Nat → Int → Int) (a b : List Nat) (st : List Int) : evc al ak (a ++ b) st = evc al ak b (evc al ak a st) := by
  unfold evc
  rw [List.foldl_append]
theorem evc_cons (al : Nat → Int) (ak : Nat → Int → Int) (c : Nat) (b : List Nat) (st : List Int) : evc al ak (c :: b) st = evc al ak b (evs al ak c st) := rfl
/-- values of their kinds -/
def tv (t : Bool) (v : Int) : Prop := if t = true then v = 0 ∨ v = 1 else -1000000 ≤ v ∧ v ≤ 1000000
def tvs : List Bool → List Int → Prop
  | [], [] => True
  | t :: r, v :: q => tv t v ∧ tvs r q
  | _, _ => False
theorem tvs_len : ∀ {ts : List Bool} {st : List Int}, tvs ts st → ts.length = st.length := by
  intro ts
  induction ts with
  | nil => intro st h; cases st with
    | nil => rfl
    | cons => exact h.elim
  | cons t r ih => intro st h; cases st with
    | nil => exact h.elim
    | cons v q => simp [ih h.2]
theorem tv_t {v : Int} (h : tv true v) : v = 0 ∨ v = 1 := h
theorem tv_f {v : Int} (h : tv false v) : -1000000 ≤ v ∧ v ≤ 1000000 := h
theorem tv_any {t : Bool} {v : Int} (h : tv t v) : -1000000 ≤ v ∧ v ≤ 1000000 := by
  cases t
  · exact h
  · rcases tv_t h with rfl | rfl <;> omega
theorem clip_in (x : Int) : -1000000 ≤ clip x ∧ clip x ≤ 1000000 := by unfold clip; omega
theorem fdiv_in {a b : Int} (ha : -1000000 ≤ a ∧ a ≤ 1000000) (h0 : b ≠ 0) : -1000000 ≤ a.fdiv b ∧ a.fdiv b ≤ 1000000 := by
  have h1 := Int.natAbs_fdiv_le_natAbs a b
  omega
theorem ty2_spec {u v : Bool} {ts ts' : List Bool} (h : ty2 u v ts = some ts') : ∃ r, ts = u :: u :: r ∧ ts' = v :: r := by
  cases ts with
  | nil => cases h
  | cons x r => cases r with
    | nil => cases h
    | cons y r =>
      by_cases q : x = u ∧ y = u
      · obtain ⟨rfl, q⟩ := q
        subst q
        simp [ty2] at h
        exact ⟨r, rfl, h.symm⟩
      · simp [ty2, q] at h
theorem ty1_spec {u : Bool} {ts ts' : List Bool} (h : ty1 u ts = some ts') : ∃ r, ts = u :: r ∧ ts' = u :: r := by
  cases ts with
  | nil => cases h
  | cons x r =>
    by_cases q : x = u
    · subst q
      simp [ty1] at h
      exact ⟨r, rfl, h.symm⟩
    · simp [ty1, q] at h
theorem ty0_spec {u : Bool} {ts ts' : List Bool} (h : ty0 u ts = some ts') : ts.length < 64 ∧ ts' = u :: ts := by
  unfold ty0 at h
  split at h
  · rename_i q
    exact ⟨q, (Option.some.inj h).symm⟩
  · cases h
/-- the kinds of steps: joining two, not, asking, alone or a number -/
theorem tyc_cases {w c : Nat} {ts ts' : List Bool} (h : tyc w c ts = some ts') :
    (nee c = 2 ∧ ∃ u v r, ts = u :: u :: r ∧ ts' = v :: r ∧ ((c = 25 ∨ c = 26) ∧ u = true ∧ v = true ∨ (c = 27 ∨ c = 28 ∨ c = 42 ∨ c = 43 ∨ c = 45 ∨ c = 47) ∧ u = false ∧ v = false ∨ (c = 60 ∨ c = 61 ∨ c = 62) ∧ u = false ∧ v = true))
    ∨ (nee c = 1 ∧ ∃ u r, ts = u :: r ∧ ts' = u :: r ∧ (c = 24 ∧ u = true ∨ akw w c = true ∧ u = false ∧ ¬ c = 24))
    ∨ (nee c = 0 ∧ ts.length < 64 ∧ ∃ u, ts' = u :: ts ∧ (c = 15 ∧ u = true ∨ (256 ≤ c ∧ c < 10256) ∧ u = false ∨ alw w c = true ∧ c < 256 ∧ u = false)) := by
  unfold tyc at h
  by_cases h1 : c = 25 ∨ c = 26
  · rw [if_pos h1] at h
    obtain ⟨r, e1, e2⟩ := ty2_spec h
    refine Or.inl ⟨?_, _, _, r, e1, e2, Or.inl ⟨h1, rfl, rfl⟩⟩
    rcases h1 with rfl | rfl <;> rfl
  rw [if_neg h1] at h
  by_cases h2 : c = 27 ∨ c = 28 ∨ c = 42 ∨ c = 43 ∨ c = 45 ∨ c = 47
  · rw [if_pos h2] at h
    obtain ⟨r, e1, e2⟩ := ty2_spec h
    refine Or.inl ⟨?_, _, _, r, e1, e2, Or.inr (Or.inl ⟨h2, rfl, rfl⟩)⟩
    rcases h2 with rfl | rfl | rfl | rfl | rfl | rfl <;> rfl
  rw [if_neg h2] at h
  by_cases h3 : c = 60 ∨ c = 61 ∨ c = 62
  · rw [if_pos h3] at h
    obtain ⟨r, e1, e2⟩ := ty2_spec h
    refine Or.inl ⟨?_, _, _, r, e1, e2, Or.inr (Or.inr ⟨h3, rfl, rfl⟩)⟩
    rcases h3 with rfl | rfl | rfl <;> rfl
  rw [if_neg h3] at h
  by_cases h4 : c = 24
  · rw [if_pos h4] at h
    obtain ⟨r, e1, e2⟩ := ty1_spec h
    exact Or.inr (Or.inl ⟨by subst h4; rfl, _, r, e1, e2, Or.inl ⟨h4, rfl⟩⟩)
  rw [if_neg h4] at h
  by_cases h5 : akw w c = true
  · rw [if_pos h5] at h
    obtain ⟨r, e1, e2⟩ := ty1_spec h
    refine Or.inr (Or.inl ⟨?_, _, r, e1, e2, Or.inr ⟨h5, rfl, h4⟩⟩)
    simp only [akw, Bool.or_eq_true, Bool.and_eq_true, beq_iff_eq] at h5
    rcases h5 with ⟨-, rfl | rfl⟩ | ⟨-, rfl⟩ <;> rfl
  rw [if_neg h5] at h
  by_cases h6 : c = 15
  · rw [if_pos h6] at h
    obtain ⟨e1, e2⟩ := ty0_spec h
    exact Or.inr (Or.inr ⟨by subst h6; rfl, e1, _, e2, Or.inl ⟨h6, rfl⟩⟩)
  rw [if_neg h6] at h
  by_cases h7 : (256 ≤ c ∧ c < 10256) ∨ alw w c = true
  · rw [if_pos h7] at h
    obtain ⟨e1, e2⟩ := ty0_spec h
    refine Or.inr (Or.inr ⟨?_, e1, _, e2, ?_⟩)
    · rcases h7 with h7 | h7
      · unfold nee
        rw [if_neg (by omega), if_neg (by omega)]
      · simp only [alw, Bool.or_eq_true, Bool.and_eq_true, beq_iff_eq] at h7
        unfold nee
        rw [if_neg (by omega), if_neg (by omega)]
    · rcases h7 with h7 | h7
      · exact Or.inr (Or.inl ⟨h7, rfl⟩)
      · refine Or.inr (Or.inr ⟨h7, ?_, rfl⟩)
        simp only [alw, Bool.or_eq_true, Bool.and_eq_true, beq_iff_eq] at h7
        omega
  rw [if_neg h7] at h
  cases h
theorem tv_joi {c : Nat} {u v : Bool} {a b : Int} (hk : (c = 25 ∨ c = 26) ∧ u = true ∧ v = true ∨ (c = 27 ∨ c = 28 ∨ c = 42 ∨ c = 43 ∨ c = 45 ∨ c = 47) ∧ u = false ∧ v = false ∨ (c = 60 ∨ c = 61 ∨ c = 62) ∧ u = false ∧ v = true) (ha : tv u a) (hb : tv u b) : tv v (joi c a b) := by
  rcases hk with ⟨hc, rfl, rfl⟩ | ⟨hc, rfl, rfl⟩ | ⟨hc, rfl, rfl⟩
  · rcases hc with rfl | rfl <;> rcases tv_t ha with rfl | rfl <;> rcases tv_t hb with rfl | rfl <;> simp [joi, tv]
  · have ha := tv_f ha
    have hb := tv_f hb
    rcases hc with rfl | rfl | rfl | rfl | rfl | rfl
    · simp [joi, tv]; omega
    · simp [joi, tv]; omega
    · simp [joi, tv, clip_in]
    · simp [joi, tv, clip_in]
    · simp [joi, tv, clip_in]
    · by_cases h0 : b = 0
      · simp [joi, tv, h0]
      · have := fdiv_in ha h0
        simp [joi, tv, h0]; omega
  · rcases hc with rfl | rfl | rfl <;> simp [joi, tv] <;> omega
/-- what is asked is of its kind -/
def alB (w : Nat) (al : Nat → Int) : Prop := al 15 = 1 ∧ ∀ c, alw w c = true → -1000000 ≤ al c ∧ al c ≤ 1000000
def akB (w : Nat) (ak : Nat → Int → Int) : Prop := ∀ c v, akw w c = true → -1000000 ≤ ak c v ∧ ak c v ≤ 1000000
theorem tv_step {w c : Nat} {al : Nat → Int} {ak : Nat → Int → Int} {ts ts' : List Bool} {st : List Int} (hal : alB w al) (hak : akB w ak) (h : tyc w c ts = some ts') (hv : tvs ts st) (hl : ts.length ≤ 64) : tvs ts' (evs al ak c st) ∧ nee c ≤ st.length ∧ st.length - nee c < 64 ∧ ts'.length ≤ 64 := by
  have hlen := tvs_len hv
  rcases tyc_cases h with ⟨hn, u, v, r, rfl, rfl, hk⟩ | ⟨hn, u, r, rfl, rfl, hk⟩ | ⟨hn, hl2, u, rfl, hk⟩
  · match st, hv with
    | b :: a :: q, hv =>
      simp only [List.length_cons] at hl hlen ⊢
      refine ⟨?_, by omega, by omega, by omega⟩
      have e : evs al ak c (b :: a :: q) = joi c a b :: q := by unfold evs; rw [if_pos hn]
      rw [e]
      exact ⟨tv_joi hk hv.2.1 hv.1, hv.2.2⟩
    | [b], hv => exact hv.2.elim
    | [], hv => exact hv.elim
  · match st, hv with
    | a :: q, hv =>
      simp only [List.length_cons] at hl hlen ⊢
      refine ⟨?_, by omega, by omega, by omega⟩
      have e : evs al ak c (a :: q) = (if c = 24 then 1 - a else ak c a) :: q := by unfold evs; rw [if_neg (by omega), if_pos hn]
      rw [e]
      refine ⟨?_, hv.2⟩
      rcases hk with ⟨rfl, rfl⟩ | ⟨hk, rfl, hk2⟩
      · rcases tv_t hv.1 with rfl | rfl <;> simp [tv]
      · rw [if_neg hk2]
        exact hak c a hk
    | [], hv => exact hv.elim
  · simp only [List.length_cons]
    refine ⟨?_, by omega, by omega, by omega⟩
    have e : evs al ak c st = (if 256 ≤ c then ((c - 256 : Nat) : Int) else al c) :: st := by unfold evs; rw [if_neg (by omega), if_neg (by omega)]
    rw [e]
    refine ⟨?_, hv⟩
    rcases hk with ⟨rfl, rfl⟩ | ⟨hk, rfl⟩ | ⟨hk, hk2, rfl⟩
    · simp [tv, hal.1]
    · rw [if_pos hk.1]
      show _ ∧ _
      omega
    · rw [if_neg (by omega)]
      exact hal.2 c hk
theorem tv_steps {w : Nat} {al : Nat → Int} {ak : Nat → Int → Int} (hal : alB w al) (hak : akB w ak) : ∀ {cs : List Nat} {ts ts' : List Bool} {st : List Int}, tycs w cs ts = some ts' → tvs ts st → ts.length ≤ 64 → tvs ts' (evc al ak cs st) ∧ ts'.length ≤ 64 := by
  intro cs
  induction cs with
  | nil => intro ts ts' st h hv hl; cases h; exact ⟨hv, hl⟩
  | cons c r ih =>
    intro ts ts' st h hv hl
    simp only [tycs] at h
    cases ht : tyc w c ts with
    | none => rw [ht] at h; cases h
    | some t =>
      rw [ht] at h
      obtain ⟨a, -, -, b⟩ := tv_step hal hak ht hv hl
      exact ih h a b

/-! configurations of the reference's reading -/
def cntO : List Nat → Nat
  | [] => 0
  | x :: V => cntO V + if 20 ≤ x then 1 else 0
/-- what holds of a configuration; w: how many wait below -/
def CI (k w : Nat) (c : Cfg) : Prop := c.2.1 ≤ k ∧ c.2.2.2.1 ≤ 6 ∧ cntO c.2.2.2.2.1 ≤ c.2.2.2.1 ∧ (∀ x ∈ c.2.2.2.2.1, x < 1000) ∧ w + c.2.2.2.2.1.length + c.2.2.2.2.2.length ≤ c.2.1
/-- a configuration in the memory -/
def RCf (g : Int → Int) (k wh : Nat) (W0 : List Nat) (c : Cfg) (M : Me) : Prop := PQ g k c.2.1 c.2.2.1 M ∧ QS (W0 ++ c.2.2.2.2.1.reverse) c.2.2.2.2.2 c.2.2.2.1 W0.length wh M ∧ WK M
theorem cntO_split (p : Nat → Bool) (V : List Nat) : cntO V = cntO (V.takeWhile p) + cntO (V.dropWhile p) := by
  induction V with
  | nil => rfl
  | cons x r ih =>
    by_cases q : p x = true
    · simp only [List.takeWhile, List.dropWhile, q, cntO]; omega
    · have q : p x = false := by simpa using q
      simp only [List.takeWhile, List.dropWhile, q, cntO]; omega
theorem cntO_of (V : List Nat) : (V.takeWhile fun x => decide (60 ≤ x)).length ≤ cntO V := by
  induction V with
  | nil => simp
  | cons x r ih =>
    by_cases q : 60 ≤ x
    · have qd : decide (60 ≤ x) = true := decide_eq_true q
      simp only [List.takeWhile, qd, List.length_cons, cntO]
      rw [if_pos (by omega)]
      omega
    · have qd : decide (60 ≤ x) = false := decide_eq_false q
      simp only [List.takeWhile, qd, List.length_nil]
      omega
theorem tw_all {p : Nat → Bool} {V : List Nat} {x : Nat} (h : x ∈ V.takeWhile p) : p x = true := by
  induction V with
  | nil => simp at h
  | cons y r ih =>
    by_cases q : p y = true
    · simp only [List.takeWhile, q, List.mem_cons] at h
      rcases h with rfl | h
      · exact q
      · exact ih h
    · have q : p y = false := by simpa using q
      simp only [List.takeWhile, q, List.not_mem_nil] at h
theorem len_split (p : Nat → Bool) (V : List Nat) : V.length = (V.takeWhile p).length + (V.dropWhile p).length := by
  rw [← List.length_append, List.takeWhile_append_dropWhile]
section
variable {g : Int → Int} {k wh : Nat}
/-- all that waits for a part ends -/
theorem mit_ends {e : Nat} {nb : Bool} : ∀ {V C : List Nat} {op : Nat}, mit g k wh ((V.takeWhile fun x => decide (60 ≤ x)).length + 1) (1, e, nb, op, V, C) = (2, e, nb, op - (V.takeWhile fun x => decide (60 ≤ x)).length, V.dropWhile fun x => decide (60 ≤ x), C ++ V.takeWhile fun x => decide (60 ≤ x)) := by
  intro V
  induction V with
  | nil =>
    intro C op
    simp only [List.takeWhile_nil, List.dropWhile_nil, List.length_nil, List.append_nil, Nat.sub_zero]
    exact mst_p (g := g) (k := k) (wh := wh) (Or.inl rfl)
  | cons x r ih =>
    intro C op
    by_cases q : 60 ≤ x
    · have qd : decide (60 ≤ x) = true := decide_eq_true q
      simp only [List.takeWhile, List.dropWhile, qd, List.length_cons]
      have e1 : mst g k wh (1, e, nb, op, x :: r, C) = (1, e, nb, op - 1, r, C ++ [x]) := by
        unfold mst
        dsimp only
        rw [if_neg (by omega), if_pos rfl, if_pos q]
      show mit g k wh ((r.takeWhile fun x => decide (60 ≤ x)).length + 1) (mst g k wh (1, e, nb, op, x :: r, C)) = _
      rw [e1, ih]
      rw [show op - 1 - (r.takeWhile fun x => decide (60 ≤ x)).length = op - ((r.takeWhile fun x => decide (60 ≤ x)).length + 1) by omega]
      simp [List.append_assoc]
    · have qd : decide (60 ≤ x) = false := decide_eq_false q
      simp only [List.takeWhile, List.dropWhile, qd, List.length_nil, List.append_nil, Nat.sub_zero]
      exact mst_p (g := g) (k := k) (wh := wh) (Or.inr ⟨x, r, rfl, by omega⟩)
theorem CI_ends {w e op : Nat} {nb : Bool} {V C : List Nat} (h : CI k w (1, e, nb, op, V, C)) : CI k w (2, e, nb, op - (V.takeWhile fun x => decide (60 ≤ x)).length, V.dropWhile fun x => decide (60 ≤ x), C ++ V.takeWhile fun x => decide (60 ≤ x)) := by
  obtain ⟨h1, h2, h3, h4, h5⟩ := h
  dsimp only at h1 h2 h3 h4 h5
  have s1 := cntO_split (fun x => decide (60 ≤ x)) V
  have s2 := len_split (fun x => decide (60 ≤ x)) V
  have c60 : cntO (V.takeWhile fun x => decide (60 ≤ x)) = (V.takeWhile fun x => decide (60 ≤ x)).length := by
    have : ∀ L : List Nat, (∀ x ∈ L, 60 ≤ x) → cntO L = L.length := by
      intro L
      induction L with
      | nil => intro _; rfl
      | cons x r ih =>
        intro h
        have := h x (by simp)
        simp only [cntO, List.length_cons]
        rw [ih (fun y hy => h y (by simp [hy])), if_pos (by omega)]
    apply this
    intro x hx
    have := tw_all hx
    simpa using this
  refine ⟨h1, ?_, ?_, ?_, ?_⟩
  · show op - _ ≤ 6
    omega
  · show cntO (V.dropWhile fun x => decide (60 ≤ x)) ≤ op - _
    omega
  · intro x hx
    exact h4 x ((List.dropWhile_sublist _).subset hx)
  · show w + (V.dropWhile fun x => decide (60 ≤ x)).length + (C ++ V.takeWhile fun x => decide (60 ≤ x)).length ≤ e
    rw [List.length_append]
    omega
/-- steps ahead of a part -/
theorem m0_eq (e op : Nat) (nb : Bool) (V C : List Nat) : mst g k wh (0, e, nb, op, V, C) = (if tkJ g k e nb = 2 then (if tkQ g k e - skp g k e ≤ 4 then (1, tkQ g k e, nxB g k e nb, op, V, C ++ [1000 + (vaF g k e).toNat]) else Flt 1 (skp g k e + 4))
    else @ite _ (isSg g k e 40) (Classical.propDecidable _) (if 6 ≤ op then Flt 4 (skp g k e) else (0, tkQ g k e, nxB g k e nb, op + 1, 20 :: V, C))
    (if ¬ tkJ g k e nb = 1 then Flt 1 (skp g k e)
    else if tkW g k e = 27 ∨ tkW g k e = 28 then @ite _ (isSg g k (tkQ g k e) 40) (Classical.propDecidable _) (if 6 ≤ op then Flt 4 (skp g k (tkQ g k e)) else (0, tkQ g k (tkQ g k e), nxB g k (tkQ g k e) (nxB g k e nb), op + 1, (if tkW g k e = 27 then 21 else 22) :: V, C)) (Flt 1 (skp g k (tkQ g k e)))
    else @ite _ (askd wh (tkW g k e)) (Classical.propDecidable _) (if 6 ≤ op then Flt 4 (skp g k e) else (0, tkQ g k e, nxB g k e nb, op + 1, qc (tkW g k e).toNat :: V, C))
    (@ite _ (alon wh (tkW g k e)) (Classical.propDecidable _) (1, tkQ g k e, nxB g k e nb, op, V, C ++ [qc (tkW g k e).toNat]) (Flt 1 (skp g k e))))) := by
  unfold mst
  dsimp only
  rw [if_pos rfl]
theorem CI_push {w e e' op b : Nat} {nb nb' : Bool} {V C : List Nat} (h : CI k w (0, e, nb, op, V, C)) (ho : ¬ 6 ≤ op) (h1 : e < e') (h2 : e' ≤ k) (hb : b < 1000) : CI k w (0, e', nb', op + 1, b :: V, C) := by
  obtain ⟨a1, a2, a3, a4, a5⟩ := h
  dsimp only at a1 a2 a3 a4 a5
  refine ⟨h2, by show op + 1 ≤ 6; omega, ?_, fun x hx => ?_, ?_⟩
  · show cntO V + (if 20 ≤ b then 1 else 0) ≤ op + 1
    split <;> omega
  · have hx : x ∈ b :: V := hx
    rw [List.mem_cons] at hx
    rcases hx with rfl | hx
    · exact hb
    · exact a4 x hx
  · show w + (b :: V).length + C.length ≤ e'
    rw [List.length_cons]
    omega
theorem CI_code {w e e' op b : Nat} {nb nb' : Bool} {V C : List Nat} (h : CI k w (0, e, nb, op, V, C)) (h1 : e < e') (h2 : e' ≤ k) : CI k w (1, e', nb', op, V, C ++ [b]) := by
  obtain ⟨a1, a2, a3, a4, a5⟩ := h
  dsimp only at a1 a2 a3 a4 a5
  refine ⟨h2, a2, a3, a4, ?_⟩
  show w + V.length + (C ++ [b]).length ≤ e'
  simp only [List.length_append, List.length_cons, List.length_nil]
  omega
/-- a sign that was peeked at is taken -/
theorem PQ_sg {e : Nat} {nb : Bool} {c : Int} {M : Me} (he : e ≤ k) (hP : PQ g k e nb M) (h : isSg g k e c) : PQ g k (tkQ g k e) (nxB g k e nb) (st M 218 2 (skp g k e + 1)) := by
  obtain ⟨a1, a2, a3, a4, a5, a6⟩ := hP
  have hn := nx_step (g := g) he (by have := Sg_K h; omega)
  have tq := tkQ_prop (g := g) he
  have hPk : skp g k e < k := Classical.not_not.mp (fun q => by have := tkK_0.mpr q; have := h.1; omega)
  have eQ := (tq.2.2 hPk).2.2.2 h.1
  have sq := skp_prop (g := g) hn.2
  have se := skp_prop (g := g) he
  refine ⟨by rw [st_ne _ _ _ (by omega)]; exact a1, by rw [st_self, su_ne _ _ (by omega)]; exact a2, ?_, Or.inr ⟨Sg_nx h, ?_⟩, by rw [st_self, su_ne _ _ (by omega)]; exact a5, by rw [st_self, su_ne _ _ (by omega)]; exact a6.1, by rw [st_self, su_ne _ _ (by omega)]; exact a6.2⟩
  · rw [st_self, su_self]; omega
  · rw [st_self, su_ne _ _ (by omega)]
    rcases a4 with ⟨-, h⟩ | ⟨-, h⟩ <;> omega
end

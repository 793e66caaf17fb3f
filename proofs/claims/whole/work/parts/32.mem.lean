/-! THE MEMORY: all that changes lies in a table of whole numbers, by cell and place -/
abbrev Me : Type := Nat → Int → Int
def su (g : Int → Int) (i v : Int) : Int → Int := fun j => if j = i then v else g j
def st (M : Me) (a : Nat) (i v : Int) : Me := fun b => if b = a then su (M a) i v else M b
def kdL : List Nat := [99, 99, 99, 99, 99, 99, 99, 99, 11, 10, 1, 6, 21, 0, 21, 9, 21, 21, 21, 21, 21, 21, 21, 21, 0, 21, 21, 21, 9, 21, 21, 21, 21, 21, 21, 21, 21, 0, 21, 21, 21, 5, 8, 21, 7, 21, 21, 21, 21, 7, 21, 21, 21, 21, 23, 3, 23, 7, 21, 21, 21, 21, 7, 21, 21, 21, 21, 7, 21, 21, 21, 21, 7, 21, 21, 21, 21, 7, 21, 21, 21, 21, 7, 21, 21, 21, 21, 7, 21, 21, 21, 21, 7, 21, 21, 21, 21, 7, 21, 21, 21, 21, 7, 21, 21, 21, 21, 7, 21, 21, 21, 21, 7, 21, 21, 21, 21, 7, 21, 21, 21, 21, 7, 21, 21, 21, 21, 7, 21, 21, 21, 21, 7, 21, 21, 21, 21, 7, 21, 21, 21, 21, 7, 21, 21, 21, 21, 7, 21, 21, 21, 21, 7, 21, 21, 21, 21, 2, 5, 8, 21, 7, 21, 21, 21, 21, 21, 21, 21, 21, 4, 21, 21, 7, 21, 21, 21, 21, 7, 21, 21, 21, 21, 7, 21, 21, 21, 21, 7, 21, 21, 21, 21, 7, 21, 21, 21, 21, 7, 21, 21, 21, 21, 7, 21, 21, 21, 21, 7, 21, 21, 21, 21, 7, 21, 21, 21, 21, 12, 21, 21, 20, 20, 20, 20, 20, 20, 20, 20, 20, 20, 20, 20, 20, 20, 20, 20, 20, 20, 20, 20, 20, 20, 20, 20, 20, 20, 20, 20, 20, 21, 22, 21, 21, 21, 21, 21, 21, 21, 21, 21, 21, 21, 21, 21, 21, 20, 20, 20, 20, 20, 20, 20, 20, 20, 20, 20, 20, 20, 20, 20, 20, 20, 20, 20, 20, 20, 20, 21, 21, 22, 21]
def lnL : List Nat := [0, 0, 0, 0, 0, 0, 0, 0, 0, 0, 0, 0, 1600, 0, 1600, 0, 5, 40, 32, 6, 6, 16, 16, 16, 0, 1600, 8, 8, 0, 5, 40, 32, 6, 6, 16, 16, 16, 0, 1600, 8, 8, 0, 0, 64, 0, 32, 32, 24, 6, 0, 32, 32, 24, 6, 9, 0, 20, 0, 32, 32, 24, 6, 0, 32, 32, 24, 6, 0, 32, 32, 24, 6, 0, 32, 32, 24, 6, 0, 32, 32, 24, 6, 0, 32, 32, 24, 6, 0, 32, 32, 24, 6, 0, 32, 32, 24, 6, 0, 32, 32, 24, 6, 0, 32, 32, 24, 6, 0, 32, 32, 24, 6, 0, 32, 32, 24, 6, 0, 32, 32, 24, 6, 0, 32, 32, 24, 6, 0, 32, 32, 24, 6, 0, 32, 32, 24, 6, 0, 32, 32, 24, 6, 0, 32, 32, 24, 6, 0, 32, 32, 24, 6, 0, 32, 32, 24, 6, 0, 0, 0, 64, 0, 32, 32, 24, 6, 80, 92, 2944, 100, 0, 97, 6, 0, 32, 32, 24, 6, 0, 32, 32, 24, 6, 0, 32, 32, 24, 6, 0, 32, 32, 24, 6, 0, 32, 32, 24, 6, 0, 32, 32, 24, 6, 0, 32, 32, 24, 6, 0, 32, 32, 24, 6, 0, 32, 32, 24, 6, 0, 1600, 6, 4, 6, 2, 4, 6, 2, 4, 2, 4, 4, 4, 5, 4, 7, 4, 5, 3, 3, 3, 5, 5, 4, 6, 2, 3, 3, 3, 3, 3, 10, 64, 64, 24, 96, 6, 16, 16, 3200, 95, 95, 4, 855, 1900, 80, 3200, 5, 4, 5, 5, 4, 5, 3, 3, 2, 3, 3, 3, 5, 3, 3, 3, 5, 5, 4, 4, 6, 4, 1700, 1700, 1700, 97]
def kd (a : Nat) : Nat := kdL.getD a 99
def ln (a : Nat) : Nat := lnL.getD a 0
def ftL : List (List Nat) := [[4, 0], [4, 0], [4, 7, 12, 0, 13, 0, 14, 15], [4, 0, 0], [4, 0], [4], [4, 0, 0, 0, 0, 0, 0, 0, 0], [0, 4, 5, 6, 7], [4, 0, 0, 0, 0], [0, 4, 5, 6, 7, 8, 9, 10, 11, 12, 14, 15, 0, 0, 0, 0], [4, 5], [4, 5, 6, 7, 0, 8, 2, 2, 36, 39, 44, 49, 50, 152, 165, 1, 167], [4, 0, 0, 0, 0, 0, 0, 0, 0, 5, 6, 7, 8, 9, 10, 11, 12, 13, 14, 15, 16, 17, 18, 19, 20, 21, 22, 23, 24, 25, 26, 27, 28, 29, 30, 31, 32, 33, 34, 0, 35, 36, 37, 38, 39, 40, 41, 42, 43, 0, 0, 0, 44, 45, 1, 1, 1, 1, 0, 0, 46, 47, 48, 0, 0, 1, 0, 49, 50, 51, 52, 53, 54, 55, 56, 57, 58, 59, 60, 61, 62, 63, 64, 65, 66, 67, 68, 69, 70, 71, 72, 73, 0, 74, 0, 0, 0, 75, 0, 1, 0, 76, 0]]
def ft (c k : Nat) : Nat := (ftL.getD c []).getD k 0
def nf (c : Nat) : Nat := (ftL.getD c []).length
def fg (g : Int → Int) (a c k : Nat) : Value := match ft c k with
  | 0 => .int (jI (g k))
  | 1 => .long (jL (g k))
  | 2 => .ref (g k).toNat
  | r + 3 => .ref (a + r)
/-- a cell by its numbers -/
def cel (g : Int → Int) (a : Nat) : AC :=
  if kd a < 13 then .inr (kd a, (List.range (nf (kd a))).map (fg g a (kd a)))
  else if kd a = 20 then .inl (0, ln a, .inl (fun j => jI (g j)))
  else if kd a = 21 then .inl (1, ln a, .inl (fun j => jI (g j)))
  else if kd a = 22 then .inl (2, ln a, .inr (.inl (fun j => jL (g j))))
  else .inl (3, ln a, .inr (.inr (.inr (.inr (fun j => if j < ln a then some (if a = 54 then 173 + 5 * j else 57 + 5 * j) else none)))))
/-- the heap of a memory; H: what lies outside -/
def hp (H : Nat → AC) (M : Me) (a : Nat) : AC := if kd a = 99 then H a else cel (M a) a
theorem st_self (M : Me) (a : Nat) (i v : Int) : st M a i v a = su (M a) i v := if_pos rfl
theorem st_ne (M : Me) {a b : Nat} (i v : Int) (h : ¬ b = a) : st M a i v b = M b := if_neg h
theorem st_app (M : Me) (a b : Nat) (i v j : Int) : st M a i v b j = if b = a then su (M a) i v j else M b j := by
  unfold st
  split <;> rfl
theorem su_self (g : Int → Int) (i v : Int) : su g i v i = v := if_pos rfl
theorem su_ne (g : Int → Int) {i j : Int} (v : Int) (h : ¬ j = i) : su g i v j = g j := if_neg h
theorem su_app (g : Int → Int) (i j v : Int) : su g i v j = if j = i then v else g j := rfl
theorem hp_congr {H : Nat → AC} {M M' : Me} {a : Nat} (h : M' a = M a) : hp H M' a = hp H M a := by
  unfold hp
  rw [h]
theorem up_hp (H : Nat → AC) (M : Me) (a : Nat) (i v : Int) : up (hp H M) a (hp H (st M a i v) a) = hp H (st M a i v) := by
  funext b
  by_cases h : b = a
  · subst h; rw [up_self]
  · rw [up_ne _ _ h, hp_congr (st_ne M i v h)]
theorem up_hpM {H : Nat → AC} {M M' : Me} {a : Nat} (h : ∀ b, ¬ b = a → M' b = M b) : up (hp H M) a (hp H M' a) = hp H M' := by
  funext b
  by_cases e : b = a
  · subst e; rw [up_self]
  · rw [up_ne _ _ e, hp_congr (h b e)]
theorem hp_ob {H : Nat → AC} {M : Me} {a c : Nat} (h : kd a = c) (hc : c < 13) : hp H M a = .inr (c, (List.range (nf c)).map (fg (M a) a c)) := by
  unfold hp cel
  rw [h, if_neg (by omega), if_pos hc]
theorem isO_hp {H : Nat → AC} {M : Me} {a c : Nat} (h : kd a = c) (hc : c < 13) : isO (hp H M a) c = true := by
  rw [hp_ob h hc]
  simp [isO]
theorem gf_hp {H : Nat → AC} {M : Me} {a c k : Nat} (h : kd a = c) (hc : c < 13) (hk : k < nf c) : gf (hp H M a) c k = some (fg (M a) a c k) := by
  rw [hp_ob h hc]
  simp [gf, hk]
theorem pf_hpG {H : Nat → AC} {M : Me} {a c k : Nat} {w : Value} {v : Int} (h : kd a = c) (hc : c < 13) (hk : k < nf c) (hw : fg (su (M a) k v) a c k = w) : pf (hp H M a) c k w = some (hp H (st M a k v) a) := by
  rw [hp_ob h hc, hp_ob h hc]
  simp only [pf, List.length_map, List.length_range, hk, and_self, if_true]
  congr 2
  congr 1
  apply List.ext_getElem
  · simp
  · intro i h1 h2
    simp only [List.getElem_set, List.getElem_map, List.getElem_range]
    rw [st_self]
    by_cases e : k = i
    · subst e
      rw [if_pos rfl, hw]
    · rw [if_neg e]
      unfold fg
      rw [su_ne _ _ (show ¬ (i : Int) = (k : Int) by omega)]
theorem ar_rng {n : Nat} {i : Int} (h0 : 0 ≤ i) (h1 : i < n) (hn : n ≤ 3200) : 0 ≤ jI i ∧ (jI i).toNatClampNeg = i.toNat ∧ i.toNat < n := by
  have e : jI i = nI i.toNat := by
    rw [jI_nI]
    congr 1
    omega
  rw [e]
  exact ⟨nI_pos' (by omega), nI_clamp (by omega), by omega⟩
theorem ln_le : ∀ a, ln a ≤ 3200 := by
  intro a
  by_cases h : a < 292
  · exact (show ∀ a, a < 292 → ln a ≤ 3200 by decide +kernel) a h
  · unfold ln
    rw [List.getD_eq_getElem?_getD, List.getElem?_eq_none (Nat.le_trans (show lnL.length ≤ 292 by decide +kernel) (by omega))]
    decide
theorem hp_ar {H : Nat → AC} {M : Me} {a n : Nat} (h : kd a = 21) (hl : ln a = n) : hp H M a = .inl (1, n, .inl (fun j => jI (M a j))) := by
  unfold hp cel
  rw [h, hl]
  rfl
theorem hp_ac {H : Nat → AC} {M : Me} {a n : Nat} (h : kd a = 20) (hl : ln a = n) : hp H M a = .inl (0, n, .inl (fun j => jI (M a j))) := by
  unfold hp cel
  rw [h, hl]
  rfl
theorem hp_al {H : Nat → AC} {M : Me} {a n : Nat} (h : kd a = 22) (hl : ln a = n) : hp H M a = .inl (2, n, .inr (.inl (fun j => jL (M a j)))) := by
  unfold hp cel
  rw [h, hl]
  rfl
theorem hp_as {H : Nat → AC} {M : Me} {a n : Nat} (h : kd a = 23) (hl : ln a = n) : hp H M a = .inl (3, n, .inr (.inr (.inr (.inr (fun j => if j < n then some (if a = 54 then 173 + 5 * j else 57 + 5 * j) else none))))) := by
  unfold hp cel
  rw [h, hl]
  rfl
theorem rdM {a n : Nat} (h : kd a = 21) (hl : ln a = n) (H : Nat → AC) (M : Me) (i : Int) (h0 : 0 ≤ i) (h1 : i < n) : rdi 1 (hp H M a) (jI i) = some (jI (M a i)) := by
  obtain ⟨e1, e2, e3⟩ := ar_rng h0 h1 (hl ▸ ln_le a)
  rw [hp_ar h hl, rdi_a, e2, if_pos ⟨e1, e3⟩, show ((i.toNat : Nat) : Int) = i by omega]
theorem rdC {a n : Nat} (h : kd a = 20) (hl : ln a = n) (H : Nat → AC) (M : Me) (i : Int) (h0 : 0 ≤ i) (h1 : i < n) : rdi 0 (hp H M a) (jI i) = some (jI (M a i)) := by
  obtain ⟨e1, e2, e3⟩ := ar_rng h0 h1 (hl ▸ ln_le a)
  rw [hp_ac h hl]
  simp only [rdi]
  rw [e2, if_pos ⟨Or.inl trivial, e1, e3⟩, show ((i.toNat : Nat) : Int) = i by omega]
theorem rdL {a n : Nat} (h : kd a = 22) (hl : ln a = n) (H : Nat → AC) (M : Me) (i : Int) (h0 : 0 ≤ i) (h1 : i < n) : rdl (hp H M a) (jI i) = some (jL (M a i)) := by
  obtain ⟨e1, e2, e3⟩ := ar_rng h0 h1 (hl ▸ ln_le a)
  rw [hp_al h hl]
  simp only [rdl]
  rw [e2, if_pos ⟨trivial, e1, e3⟩, show ((i.toNat : Nat) : Int) = i by omega]
theorem rdS {a n : Nat} (h : kd a = 23) (hl : ln a = n) (H : Nat → AC) (M : Me) (i : Int) (h0 : 0 ≤ i) (h1 : i < n) : rdr (hp H M a) (jI i) = some (some (if a = 54 then 173 + 5 * i.toNat else 57 + 5 * i.toNat)) := by
  obtain ⟨e1, e2, e3⟩ := ar_rng h0 h1 (hl ▸ ln_le a)
  rw [hp_as h hl]
  simp only [rdr]
  rw [e2, if_pos ⟨trivial, e1, e3⟩, if_pos e3]
theorem wrM {a n : Nat} (h : kd a = 21) (hl : ln a = n) (H : Nat → AC) (M : Me) (i v : Int) (h0 : 0 ≤ i) (h1 : i < n) : wri 1 (hp H M a) (jI i) (jI v) = some (hp H (st M a i v) a) := by
  obtain ⟨e1, e2, e3⟩ := ar_rng h0 h1 (hl ▸ ln_le a)
  rw [hp_ar h hl, hp_ar h hl, wri_a, e2, if_pos ⟨e1, e3⟩, st_self]
  congr 5
  funext j
  unfold upd su
  by_cases e : j = i.toNat
  · rw [if_pos e, if_pos (by omega)]
  · rw [if_neg e, if_neg (by omega)]
theorem wrL {a n : Nat} (h : kd a = 22) (hl : ln a = n) (H : Nat → AC) (M : Me) (i v : Int) (h0 : 0 ≤ i) (h1 : i < n) : wrl (hp H M a) (jI i) (jL v) = some (hp H (st M a i v) a) := by
  obtain ⟨e1, e2, e3⟩ := ar_rng h0 h1 (hl ▸ ln_le a)
  rw [hp_al h hl, hp_al h hl]
  simp only [wrl]
  rw [e2, if_pos ⟨trivial, e1, e3⟩, st_self]
  congr 6
  funext j
  unfold vp_updL su
  by_cases e : j = i.toNat
  · rw [if_pos e, if_pos (by omega)]
  · rw [if_neg e, if_neg (by omega)]
theorem alM {a n : Nat} (h : kd a = 21) (hl : ln a = n) (H : Nat → AC) (M : Me) : aln (hp H M a) = some (jI n) := by
  rw [hp_ar h hl]; rfl
theorem alC {a n : Nat} (h : kd a = 20) (hl : ln a = n) (H : Nat → AC) (M : Me) : aln (hp H M a) = some (jI n) := by
  rw [hp_ac h hl]; rfl
theorem alS {a n : Nat} (h : kd a = 23) (hl : ln a = n) (H : Nat → AC) (M : Me) : aln (hp H M a) = some (jI n) := by
  rw [hp_as h hl]; rfl
theorem kd_lt {a c : Nat} (h : kd a = c) (hc : c < 99) : a < 292 := by
  by_cases q : a < 292
  · exact q
  · unfold kd at h
    rw [List.getD_eq_getElem?_getD, List.getElem?_eq_none (Nat.le_trans (show kdL.length ≤ 292 by decide +kernel) (by omega))] at h
    have : 99 = c := h
    omega
theorem gsI {a c k : Nat} (h : kd a = c) (hk : (decide (c < 13) && (decide (k < nf c) && ft c k == 0)) = true) (H : Nat → AC) (M : Me) : gf (hp H M a) c k = some (.int (jI (M a k))) := by
  simp only [Bool.and_eq_true, decide_eq_true_eq, beq_iff_eq] at hk
  rw [gf_hp h hk.1 hk.2.1]
  unfold fg
  rw [hk.2.2]
theorem gsJ {a c k : Nat} (h : kd a = c) (hk : (decide (c < 13) && (decide (k < nf c) && ft c k == 1)) = true) (H : Nat → AC) (M : Me) : gf (hp H M a) c k = some (.long (jL (M a k))) := by
  simp only [Bool.and_eq_true, decide_eq_true_eq, beq_iff_eq] at hk
  rw [gf_hp h hk.1 hk.2.1]
  unfold fg
  rw [hk.2.2]
theorem gsK {a c k : Nat} (h : kd a = c) (hk : (decide (c < 13) && (decide (k < nf c) && ft c k == 2)) = true) (H : Nat → AC) (M : Me) : gf (hp H M a) c k = some (.ref (M a k).toNat) := by
  simp only [Bool.and_eq_true, decide_eq_true_eq, beq_iff_eq] at hk
  rw [gf_hp h hk.1 hk.2.1]
  unfold fg
  rw [hk.2.2]
theorem gsR {a c k r : Nat} (h : kd a = c) (hk : (decide (c < 13) && (decide (k < nf c) && ft c k == r + 3)) = true) (H : Nat → AC) (M : Me) : gf (hp H M a) c k = some (.ref (a + r)) := by
  simp only [Bool.and_eq_true, decide_eq_true_eq, beq_iff_eq] at hk
  rw [gf_hp h hk.1 hk.2.1]
  unfold fg
  rw [hk.2.2]
theorem psI {a c k : Nat} (h : kd a = c) (hk : (decide (c < 13) && (decide (k < nf c) && ft c k == 0)) = true) (H : Nat → AC) (M : Me) (v : Int) : pf (hp H M a) c k (.int (jI v)) = some (hp H (st M a k v) a) := by
  simp only [Bool.and_eq_true, decide_eq_true_eq, beq_iff_eq] at hk
  refine pf_hpG h hk.1 hk.2.1 ?_
  unfold fg
  rw [hk.2.2, su_self]
theorem psJ {a c k : Nat} (h : kd a = c) (hk : (decide (c < 13) && (decide (k < nf c) && ft c k == 1)) = true) (H : Nat → AC) (M : Me) (v : Int) : pf (hp H M a) c k (.long (jL v)) = some (hp H (st M a k v) a) := by
  simp only [Bool.and_eq_true, decide_eq_true_eq, beq_iff_eq] at hk
  refine pf_hpG h hk.1 hk.2.1 ?_
  unfold fg
  rw [hk.2.2, su_self]
theorem psK {a c k : Nat} (h : kd a = c) (hk : (decide (c < 13) && (decide (k < nf c) && ft c k == 2)) = true) (H : Nat → AC) (M : Me) (v : Nat) : pf (hp H M a) c k (.ref v) = some (hp H (st M a k (v : Int)) a) := by
  simp only [Bool.and_eq_true, decide_eq_true_eq, beq_iff_eq] at hk
  refine pf_hpG h hk.1 hk.2.1 ?_
  unfold fg
  rw [hk.2.2, su_self]
  rfl
theorem psB {a c k : Nat} (h : kd a = c) (hk : (decide (c < 13) && (decide (k < nf c) && ft c k == 0)) = true) (H : Nat → AC) (M : Me) (v : Int) : pf (hp H M a) c k (.int (jI v)) = some (hp H (st M a k v) a) := psI h hk H M v
/-- what lies at an offset of an object of a class -/
def ofC (c f kx lx : Nat) : Bool := (List.range 292).all fun a => !(kd a == c) || (kd (a + f) == kx && ln (a + f) == lx)
theorem ofC_k {c f kx lx a : Nat} (h : kd a = c) (q : (decide (c < 99) && ofC c f kx lx) = true) : kd (a + f) = kx := by
  simp only [Bool.and_eq_true, decide_eq_true_eq] at q
  have := List.all_eq_true.mp q.2 a (List.mem_range.mpr (kd_lt h q.1))
  simp [h] at this
  exact this.1
theorem ofC_l {c f kx lx a : Nat} (h : kd a = c) (q : (decide (c < 99) && ofC c f kx lx) = true) : ln (a + f) = lx := by
  simp only [Bool.and_eq_true, decide_eq_true_eq] at q
  have := List.all_eq_true.mp q.2 a (List.mem_range.mpr (kd_lt h q.1))
  simp [h] at this
  exact this.2
theorem gs0_0 {a : Nat} (h : kd a = 0) (H : Nat → AC) (M : Me) : gf (hp H M a) 0 0 = some (.ref (a + 1)) := gsR h (by decide +kernel) H M
theorem gs0_1 {a : Nat} (h : kd a = 0) (H : Nat → AC) (M : Me) : gf (hp H M a) 0 1 = some (.int (jI (M a 1))) := gsI h (by decide +kernel) H M
theorem ps0_1 {a : Nat} (h : kd a = 0) (H : Nat → AC) (M : Me) (v : Int) : pf (hp H M a) 0 1 (.int (jI v)) = some (hp H (st M a 1 v) a) := psI h (by decide +kernel) H M v
theorem io0 {a : Nat} (h : kd a = 0) (H : Nat → AC) (M : Me) : isO (hp H M a) 0 = true := isO_hp h (Nat.le_of_ble_eq_true rfl)
theorem oc0_0 : (decide (0 < 99) && ofC 0 1 21 1600) = true := by decide +kernel
theorem ka0_0 {a : Nat} (h : kd a = 0) : kd (a + 1) = 21 := ofC_k h oc0_0
theorem la0_0 {a : Nat} (h : kd a = 0) : ln (a + 1) = 1600 := ofC_l h oc0_0
theorem gs1_0 {a : Nat} (h : kd a = 1) (H : Nat → AC) (M : Me) : gf (hp H M a) 1 0 = some (.ref (a + 1)) := gsR h (by decide +kernel) H M
theorem gs1_1 {a : Nat} (h : kd a = 1) (H : Nat → AC) (M : Me) : gf (hp H M a) 1 1 = some (.int (jI (M a 1))) := gsI h (by decide +kernel) H M
theorem ps1_1 {a : Nat} (h : kd a = 1) (H : Nat → AC) (M : Me) (v : Int) : pf (hp H M a) 1 1 (.int (jI v)) = some (hp H (st M a 1 v) a) := psI h (by decide +kernel) H M v
theorem io1 {a : Nat} (h : kd a = 1) (H : Nat → AC) (M : Me) : isO (hp H M a) 1 = true := isO_hp h (Nat.le_of_ble_eq_true rfl)
theorem oc1_0 : (decide (1 < 99) && ofC 1 1 6 0) = true := by decide +kernel
theorem ka1_0 {a : Nat} (h : kd a = 1) : kd (a + 1) = 6 := ofC_k h oc1_0
theorem gs2_0 {a : Nat} (h : kd a = 2) (H : Nat → AC) (M : Me) : gf (hp H M a) 2 0 = some (.ref (a + 1)) := gsR h (by decide +kernel) H M
theorem gs2_1 {a : Nat} (h : kd a = 2) (H : Nat → AC) (M : Me) : gf (hp H M a) 2 1 = some (.ref (a + 4)) := gsR h (by decide +kernel) H M
theorem gs2_2 {a : Nat} (h : kd a = 2) (H : Nat → AC) (M : Me) : gf (hp H M a) 2 2 = some (.ref (a + 9)) := gsR h (by decide +kernel) H M
theorem gs2_3 {a : Nat} (h : kd a = 2) (H : Nat → AC) (M : Me) : gf (hp H M a) 2 3 = some (.int (jI (M a 3))) := gsI h (by decide +kernel) H M
theorem ps2_3 {a : Nat} (h : kd a = 2) (H : Nat → AC) (M : Me) (v : Int) : pf (hp H M a) 2 3 (.int (jI v)) = some (hp H (st M a 3 v) a) := psI h (by decide +kernel) H M v
theorem gs2_4 {a : Nat} (h : kd a = 2) (H : Nat → AC) (M : Me) : gf (hp H M a) 2 4 = some (.ref (a + 10)) := gsR h (by decide +kernel) H M
theorem gs2_5 {a : Nat} (h : kd a = 2) (H : Nat → AC) (M : Me) : gf (hp H M a) 2 5 = some (.int (jI (M a 5))) := gsI h (by decide +kernel) H M
theorem ps2_5 {a : Nat} (h : kd a = 2) (H : Nat → AC) (M : Me) (v : Int) : pf (hp H M a) 2 5 (.int (jI v)) = some (hp H (st M a 5 v) a) := psI h (by decide +kernel) H M v
theorem gs2_6 {a : Nat} (h : kd a = 2) (H : Nat → AC) (M : Me) : gf (hp H M a) 2 6 = some (.ref (a + 11)) := gsR h (by decide +kernel) H M
theorem gs2_7 {a : Nat} (h : kd a = 2) (H : Nat → AC) (M : Me) : gf (hp H M a) 2 7 = some (.ref (a + 12)) := gsR h (by decide +kernel) H M
theorem io2 {a : Nat} (h : kd a = 2) (H : Nat → AC) (M : Me) : isO (hp H M a) 2 = true := isO_hp h (Nat.le_of_ble_eq_true rfl)
theorem oc2_0 : (decide (2 < 99) && ofC 2 1 5 0) = true := by decide +kernel
theorem ka2_0 {a : Nat} (h : kd a = 2) : kd (a + 1) = 5 := ofC_k h oc2_0
theorem oc2_1 : (decide (2 < 99) && ofC 2 4 7 0) = true := by decide +kernel
theorem ka2_1 {a : Nat} (h : kd a = 2) : kd (a + 4) = 7 := ofC_k h oc2_1
theorem oc2_2 : (decide (2 < 99) && ofC 2 9 21 80) = true := by decide +kernel
theorem ka2_2 {a : Nat} (h : kd a = 2) : kd (a + 9) = 21 := ofC_k h oc2_2
theorem la2_2 {a : Nat} (h : kd a = 2) : ln (a + 9) = 80 := ofC_l h oc2_2
theorem oc2_4 : (decide (2 < 99) && ofC 2 10 21 92) = true := by decide +kernel
theorem ka2_4 {a : Nat} (h : kd a = 2) : kd (a + 10) = 21 := ofC_k h oc2_4
theorem la2_4 {a : Nat} (h : kd a = 2) : ln (a + 10) = 92 := ofC_l h oc2_4
theorem oc2_6 : (decide (2 < 99) && ofC 2 11 21 2944) = true := by decide +kernel
theorem ka2_6 {a : Nat} (h : kd a = 2) : kd (a + 11) = 21 := ofC_k h oc2_6
theorem la2_6 {a : Nat} (h : kd a = 2) : ln (a + 11) = 2944 := ofC_l h oc2_6
theorem oc2_7 : (decide (2 < 99) && ofC 2 12 21 100) = true := by decide +kernel
theorem ka2_7 {a : Nat} (h : kd a = 2) : kd (a + 12) = 21 := ofC_k h oc2_7
theorem la2_7 {a : Nat} (h : kd a = 2) : ln (a + 12) = 100 := ofC_l h oc2_7
theorem gs3_0 {a : Nat} (h : kd a = 3) (H : Nat → AC) (M : Me) : gf (hp H M a) 3 0 = some (.ref (a + 1)) := gsR h (by decide +kernel) H M
theorem gs3_1 {a : Nat} (h : kd a = 3) (H : Nat → AC) (M : Me) : gf (hp H M a) 3 1 = some (.int (jI (M a 1))) := gsI h (by decide +kernel) H M
theorem ps3_1 {a : Nat} (h : kd a = 3) (H : Nat → AC) (M : Me) (v : Int) : pf (hp H M a) 3 1 (.int (jI v)) = some (hp H (st M a 1 v) a) := psI h (by decide +kernel) H M v
theorem gs3_2 {a : Nat} (h : kd a = 3) (H : Nat → AC) (M : Me) : gf (hp H M a) 3 2 = some (.int (jI (M a 2))) := gsI h (by decide +kernel) H M
theorem ps3_2 {a : Nat} (h : kd a = 3) (H : Nat → AC) (M : Me) (v : Int) : pf (hp H M a) 3 2 (.int (jI v)) = some (hp H (st M a 2 v) a) := psI h (by decide +kernel) H M v
theorem io3 {a : Nat} (h : kd a = 3) (H : Nat → AC) (M : Me) : isO (hp H M a) 3 = true := isO_hp h (Nat.le_of_ble_eq_true rfl)
theorem oc3_0 : (decide (3 < 99) && ofC 3 1 23 20) = true := by decide +kernel
theorem ka3_0 {a : Nat} (h : kd a = 3) : kd (a + 1) = 23 := ofC_k h oc3_0
theorem la3_0 {a : Nat} (h : kd a = 3) : ln (a + 1) = 20 := ofC_l h oc3_0
theorem gs4_0 {a : Nat} (h : kd a = 4) (H : Nat → AC) (M : Me) : gf (hp H M a) 4 0 = some (.ref (a + 1)) := gsR h (by decide +kernel) H M
theorem gs4_1 {a : Nat} (h : kd a = 4) (H : Nat → AC) (M : Me) : gf (hp H M a) 4 1 = some (.int (jI (M a 1))) := gsI h (by decide +kernel) H M
theorem ps4_1 {a : Nat} (h : kd a = 4) (H : Nat → AC) (M : Me) (v : Int) : pf (hp H M a) 4 1 (.int (jI v)) = some (hp H (st M a 1 v) a) := psI h (by decide +kernel) H M v
theorem io4 {a : Nat} (h : kd a = 4) (H : Nat → AC) (M : Me) : isO (hp H M a) 4 = true := isO_hp h (Nat.le_of_ble_eq_true rfl)
theorem oc4_0 : (decide (4 < 99) && ofC 4 1 21 97) = true := by decide +kernel
theorem ka4_0 {a : Nat} (h : kd a = 4) : kd (a + 1) = 21 := ofC_k h oc4_0
theorem la4_0 {a : Nat} (h : kd a = 4) : ln (a + 1) = 97 := ofC_l h oc4_0
theorem gs5_0 {a : Nat} (h : kd a = 5) (H : Nat → AC) (M : Me) : gf (hp H M a) 5 0 = some (.ref (a + 1)) := gsR h (by decide +kernel) H M
theorem io5 {a : Nat} (h : kd a = 5) (H : Nat → AC) (M : Me) : isO (hp H M a) 5 = true := isO_hp h (Nat.le_of_ble_eq_true rfl)
theorem oc5_0 : (decide (5 < 99) && ofC 5 1 8 0) = true := by decide +kernel
theorem ka5_0 {a : Nat} (h : kd a = 5) : kd (a + 1) = 8 := ofC_k h oc5_0
theorem gs6_0 {a : Nat} (h : kd a = 6) (H : Nat → AC) (M : Me) : gf (hp H M a) 6 0 = some (.ref (a + 1)) := gsR h (by decide +kernel) H M
theorem gs6_1 {a : Nat} (h : kd a = 6) (H : Nat → AC) (M : Me) : gf (hp H M a) 6 1 = some (.int (jI (M a 1))) := gsI h (by decide +kernel) H M
theorem ps6_1 {a : Nat} (h : kd a = 6) (H : Nat → AC) (M : Me) (v : Int) : pf (hp H M a) 6 1 (.int (jI v)) = some (hp H (st M a 1 v) a) := psI h (by decide +kernel) H M v
theorem gs6_2 {a : Nat} (h : kd a = 6) (H : Nat → AC) (M : Me) : gf (hp H M a) 6 2 = some (.int (jI (M a 2))) := gsI h (by decide +kernel) H M
theorem ps6_2 {a : Nat} (h : kd a = 6) (H : Nat → AC) (M : Me) (v : Int) : pf (hp H M a) 6 2 (.int (jI v)) = some (hp H (st M a 2 v) a) := psI h (by decide +kernel) H M v
theorem gs6_3 {a : Nat} (h : kd a = 6) (H : Nat → AC) (M : Me) : gf (hp H M a) 6 3 = some (.int (jI (M a 3))) := gsI h (by decide +kernel) H M
theorem ps6_3 {a : Nat} (h : kd a = 6) (H : Nat → AC) (M : Me) (v : Int) : pf (hp H M a) 6 3 (.int (jI v)) = some (hp H (st M a 3 v) a) := psI h (by decide +kernel) H M v
theorem gs6_4 {a : Nat} (h : kd a = 6) (H : Nat → AC) (M : Me) : gf (hp H M a) 6 4 = some (.int (jI (M a 4))) := gsI h (by decide +kernel) H M
theorem ps6_4 {a : Nat} (h : kd a = 6) (H : Nat → AC) (M : Me) (v : Int) : pf (hp H M a) 6 4 (.int (jI v)) = some (hp H (st M a 4 v) a) := psI h (by decide +kernel) H M v
theorem gs6_5 {a : Nat} (h : kd a = 6) (H : Nat → AC) (M : Me) : gf (hp H M a) 6 5 = some (.int (jI (M a 5))) := gsI h (by decide +kernel) H M
theorem ps6_5 {a : Nat} (h : kd a = 6) (H : Nat → AC) (M : Me) (v : Int) : pf (hp H M a) 6 5 (.int (jI v)) = some (hp H (st M a 5 v) a) := psI h (by decide +kernel) H M v
theorem gs6_6 {a : Nat} (h : kd a = 6) (H : Nat → AC) (M : Me) : gf (hp H M a) 6 6 = some (.int (jI (M a 6))) := gsI h (by decide +kernel) H M
theorem ps6_6 {a : Nat} (h : kd a = 6) (H : Nat → AC) (M : Me) (v : Int) : pf (hp H M a) 6 6 (.int (jI v)) = some (hp H (st M a 6 v) a) := psI h (by decide +kernel) H M v
theorem gs6_7 {a : Nat} (h : kd a = 6) (H : Nat → AC) (M : Me) : gf (hp H M a) 6 7 = some (.int (jI (M a 7))) := gsI h (by decide +kernel) H M
theorem ps6_7 {a : Nat} (h : kd a = 6) (H : Nat → AC) (M : Me) (v : Int) : pf (hp H M a) 6 7 (.int (jI v)) = some (hp H (st M a 7 v) a) := psI h (by decide +kernel) H M v
theorem gs6_8 {a : Nat} (h : kd a = 6) (H : Nat → AC) (M : Me) : gf (hp H M a) 6 8 = some (.int (jI (M a 8))) := gsI h (by decide +kernel) H M
theorem ps6_8 {a : Nat} (h : kd a = 6) (H : Nat → AC) (M : Me) (v : Int) : pf (hp H M a) 6 8 (.int (jI v)) = some (hp H (st M a 8 v) a) := psI h (by decide +kernel) H M v
theorem io6 {a : Nat} (h : kd a = 6) (H : Nat → AC) (M : Me) : isO (hp H M a) 6 = true := isO_hp h (Nat.le_of_ble_eq_true rfl)
theorem oc6_0 : (decide (6 < 99) && ofC 6 1 21 1600) = true := by decide +kernel
theorem ka6_0 {a : Nat} (h : kd a = 6) : kd (a + 1) = 21 := ofC_k h oc6_0
theorem la6_0 {a : Nat} (h : kd a = 6) : ln (a + 1) = 1600 := ofC_l h oc6_0
theorem gs7_0 {a : Nat} (h : kd a = 7) (H : Nat → AC) (M : Me) : gf (hp H M a) 7 0 = some (.int (jI (M a 0))) := gsI h (by decide +kernel) H M
theorem ps7_0 {a : Nat} (h : kd a = 7) (H : Nat → AC) (M : Me) (v : Int) : pf (hp H M a) 7 0 (.int (jI v)) = some (hp H (st M a 0 v) a) := psI h (by decide +kernel) H M v
theorem gs7_1 {a : Nat} (h : kd a = 7) (H : Nat → AC) (M : Me) : gf (hp H M a) 7 1 = some (.ref (a + 1)) := gsR h (by decide +kernel) H M
theorem gs7_2 {a : Nat} (h : kd a = 7) (H : Nat → AC) (M : Me) : gf (hp H M a) 7 2 = some (.ref (a + 2)) := gsR h (by decide +kernel) H M
theorem gs7_3 {a : Nat} (h : kd a = 7) (H : Nat → AC) (M : Me) : gf (hp H M a) 7 3 = some (.ref (a + 3)) := gsR h (by decide +kernel) H M
theorem gs7_4 {a : Nat} (h : kd a = 7) (H : Nat → AC) (M : Me) : gf (hp H M a) 7 4 = some (.ref (a + 4)) := gsR h (by decide +kernel) H M
theorem io7 {a : Nat} (h : kd a = 7) (H : Nat → AC) (M : Me) : isO (hp H M a) 7 = true := isO_hp h (Nat.le_of_ble_eq_true rfl)
theorem oc7_1 : (decide (7 < 99) && ofC 7 1 21 32) = true := by decide +kernel
theorem ka7_1 {a : Nat} (h : kd a = 7) : kd (a + 1) = 21 := ofC_k h oc7_1
theorem la7_1 {a : Nat} (h : kd a = 7) : ln (a + 1) = 32 := ofC_l h oc7_1
theorem oc7_2 : (decide (7 < 99) && ofC 7 2 21 32) = true := by decide +kernel
theorem ka7_2 {a : Nat} (h : kd a = 7) : kd (a + 2) = 21 := ofC_k h oc7_2
theorem la7_2 {a : Nat} (h : kd a = 7) : ln (a + 2) = 32 := ofC_l h oc7_2
theorem oc7_3 : (decide (7 < 99) && ofC 7 3 21 24) = true := by decide +kernel
theorem ka7_3 {a : Nat} (h : kd a = 7) : kd (a + 3) = 21 := ofC_k h oc7_3
theorem la7_3 {a : Nat} (h : kd a = 7) : ln (a + 3) = 24 := ofC_l h oc7_3
theorem oc7_4 : (decide (7 < 99) && ofC 7 4 21 6) = true := by decide +kernel
theorem ka7_4 {a : Nat} (h : kd a = 7) : kd (a + 4) = 21 := ofC_k h oc7_4
theorem la7_4 {a : Nat} (h : kd a = 7) : ln (a + 4) = 6 := ofC_l h oc7_4
theorem gs8_0 {a : Nat} (h : kd a = 8) (H : Nat → AC) (M : Me) : gf (hp H M a) 8 0 = some (.ref (a + 1)) := gsR h (by decide +kernel) H M
theorem gs8_1 {a : Nat} (h : kd a = 8) (H : Nat → AC) (M : Me) : gf (hp H M a) 8 1 = some (.int (jI (M a 1))) := gsI h (by decide +kernel) H M
theorem ps8_1 {a : Nat} (h : kd a = 8) (H : Nat → AC) (M : Me) (v : Int) : pf (hp H M a) 8 1 (.int (jI v)) = some (hp H (st M a 1 v) a) := psI h (by decide +kernel) H M v
theorem gs8_2 {a : Nat} (h : kd a = 8) (H : Nat → AC) (M : Me) : gf (hp H M a) 8 2 = some (.int (jI (M a 2))) := gsI h (by decide +kernel) H M
theorem ps8_2 {a : Nat} (h : kd a = 8) (H : Nat → AC) (M : Me) (v : Int) : pf (hp H M a) 8 2 (.int (jI v)) = some (hp H (st M a 2 v) a) := psI h (by decide +kernel) H M v
theorem gs8_3 {a : Nat} (h : kd a = 8) (H : Nat → AC) (M : Me) : gf (hp H M a) 8 3 = some (.int (jI (M a 3))) := gsI h (by decide +kernel) H M
theorem ps8_3 {a : Nat} (h : kd a = 8) (H : Nat → AC) (M : Me) (v : Int) : pf (hp H M a) 8 3 (.int (jI v)) = some (hp H (st M a 3 v) a) := psI h (by decide +kernel) H M v
theorem gs8_4 {a : Nat} (h : kd a = 8) (H : Nat → AC) (M : Me) : gf (hp H M a) 8 4 = some (.int (jI (M a 4))) := gsI h (by decide +kernel) H M
theorem ps8_4 {a : Nat} (h : kd a = 8) (H : Nat → AC) (M : Me) (v : Int) : pf (hp H M a) 8 4 (.int (jI v)) = some (hp H (st M a 4 v) a) := psI h (by decide +kernel) H M v
theorem io8 {a : Nat} (h : kd a = 8) (H : Nat → AC) (M : Me) : isO (hp H M a) 8 = true := isO_hp h (Nat.le_of_ble_eq_true rfl)
theorem oc8_0 : (decide (8 < 99) && ofC 8 1 21 64) = true := by decide +kernel
theorem ka8_0 {a : Nat} (h : kd a = 8) : kd (a + 1) = 21 := ofC_k h oc8_0
theorem la8_0 {a : Nat} (h : kd a = 8) : ln (a + 1) = 64 := ofC_l h oc8_0
theorem gs9_0 {a : Nat} (h : kd a = 9) (H : Nat → AC) (M : Me) : gf (hp H M a) 9 0 = some (.int (jI (M a 0))) := gsI h (by decide +kernel) H M
theorem ps9_0 {a : Nat} (h : kd a = 9) (H : Nat → AC) (M : Me) (v : Int) : pf (hp H M a) 9 0 (.int (jI v)) = some (hp H (st M a 0 v) a) := psI h (by decide +kernel) H M v
theorem gs9_1 {a : Nat} (h : kd a = 9) (H : Nat → AC) (M : Me) : gf (hp H M a) 9 1 = some (.ref (a + 1)) := gsR h (by decide +kernel) H M
theorem gs9_2 {a : Nat} (h : kd a = 9) (H : Nat → AC) (M : Me) : gf (hp H M a) 9 2 = some (.ref (a + 2)) := gsR h (by decide +kernel) H M
theorem gs9_3 {a : Nat} (h : kd a = 9) (H : Nat → AC) (M : Me) : gf (hp H M a) 9 3 = some (.ref (a + 3)) := gsR h (by decide +kernel) H M
theorem gs9_4 {a : Nat} (h : kd a = 9) (H : Nat → AC) (M : Me) : gf (hp H M a) 9 4 = some (.ref (a + 4)) := gsR h (by decide +kernel) H M
theorem gs9_5 {a : Nat} (h : kd a = 9) (H : Nat → AC) (M : Me) : gf (hp H M a) 9 5 = some (.ref (a + 5)) := gsR h (by decide +kernel) H M
theorem gs9_6 {a : Nat} (h : kd a = 9) (H : Nat → AC) (M : Me) : gf (hp H M a) 9 6 = some (.ref (a + 6)) := gsR h (by decide +kernel) H M
theorem gs9_7 {a : Nat} (h : kd a = 9) (H : Nat → AC) (M : Me) : gf (hp H M a) 9 7 = some (.ref (a + 7)) := gsR h (by decide +kernel) H M
theorem gs9_8 {a : Nat} (h : kd a = 9) (H : Nat → AC) (M : Me) : gf (hp H M a) 9 8 = some (.ref (a + 8)) := gsR h (by decide +kernel) H M
theorem gs9_9 {a : Nat} (h : kd a = 9) (H : Nat → AC) (M : Me) : gf (hp H M a) 9 9 = some (.ref (a + 9)) := gsR h (by decide +kernel) H M
theorem gs9_10 {a : Nat} (h : kd a = 9) (H : Nat → AC) (M : Me) : gf (hp H M a) 9 10 = some (.ref (a + 11)) := gsR h (by decide +kernel) H M
theorem gs9_11 {a : Nat} (h : kd a = 9) (H : Nat → AC) (M : Me) : gf (hp H M a) 9 11 = some (.ref (a + 12)) := gsR h (by decide +kernel) H M
theorem gs9_12 {a : Nat} (h : kd a = 9) (H : Nat → AC) (M : Me) : gf (hp H M a) 9 12 = some (.int (jI (M a 12))) := gsI h (by decide +kernel) H M
theorem ps9_12 {a : Nat} (h : kd a = 9) (H : Nat → AC) (M : Me) (v : Int) : pf (hp H M a) 9 12 (.int (jI v)) = some (hp H (st M a 12 v) a) := psI h (by decide +kernel) H M v
theorem gs9_13 {a : Nat} (h : kd a = 9) (H : Nat → AC) (M : Me) : gf (hp H M a) 9 13 = some (.int (jI (M a 13))) := gsI h (by decide +kernel) H M
theorem ps9_13 {a : Nat} (h : kd a = 9) (H : Nat → AC) (M : Me) (v : Int) : pf (hp H M a) 9 13 (.int (jI v)) = some (hp H (st M a 13 v) a) := psI h (by decide +kernel) H M v
theorem gs9_14 {a : Nat} (h : kd a = 9) (H : Nat → AC) (M : Me) : gf (hp H M a) 9 14 = some (.int (jI (M a 14))) := gsI h (by decide +kernel) H M
theorem ps9_14 {a : Nat} (h : kd a = 9) (H : Nat → AC) (M : Me) (v : Int) : pf (hp H M a) 9 14 (.int (jI v)) = some (hp H (st M a 14 v) a) := psI h (by decide +kernel) H M v
theorem gs9_15 {a : Nat} (h : kd a = 9) (H : Nat → AC) (M : Me) : gf (hp H M a) 9 15 = some (.int (jI (M a 15))) := gsI h (by decide +kernel) H M
theorem ps9_15 {a : Nat} (h : kd a = 9) (H : Nat → AC) (M : Me) (v : Int) : pf (hp H M a) 9 15 (.int (jI v)) = some (hp H (st M a 15 v) a) := psI h (by decide +kernel) H M v
theorem io9 {a : Nat} (h : kd a = 9) (H : Nat → AC) (M : Me) : isO (hp H M a) 9 = true := isO_hp h (Nat.le_of_ble_eq_true rfl)
theorem oc9_1 : (decide (9 < 99) && ofC 9 1 21 5) = true := by decide +kernel
theorem ka9_1 {a : Nat} (h : kd a = 9) : kd (a + 1) = 21 := ofC_k h oc9_1
theorem la9_1 {a : Nat} (h : kd a = 9) : ln (a + 1) = 5 := ofC_l h oc9_1
theorem oc9_2 : (decide (9 < 99) && ofC 9 2 21 40) = true := by decide +kernel
theorem ka9_2 {a : Nat} (h : kd a = 9) : kd (a + 2) = 21 := ofC_k h oc9_2
theorem la9_2 {a : Nat} (h : kd a = 9) : ln (a + 2) = 40 := ofC_l h oc9_2
theorem oc9_3 : (decide (9 < 99) && ofC 9 3 21 32) = true := by decide +kernel
theorem ka9_3 {a : Nat} (h : kd a = 9) : kd (a + 3) = 21 := ofC_k h oc9_3
theorem la9_3 {a : Nat} (h : kd a = 9) : ln (a + 3) = 32 := ofC_l h oc9_3
theorem oc9_4 : (decide (9 < 99) && ofC 9 4 21 6) = true := by decide +kernel
theorem ka9_4 {a : Nat} (h : kd a = 9) : kd (a + 4) = 21 := ofC_k h oc9_4
theorem la9_4 {a : Nat} (h : kd a = 9) : ln (a + 4) = 6 := ofC_l h oc9_4
theorem oc9_5 : (decide (9 < 99) && ofC 9 5 21 6) = true := by decide +kernel
theorem ka9_5 {a : Nat} (h : kd a = 9) : kd (a + 5) = 21 := ofC_k h oc9_5
theorem la9_5 {a : Nat} (h : kd a = 9) : ln (a + 5) = 6 := ofC_l h oc9_5
theorem oc9_6 : (decide (9 < 99) && ofC 9 6 21 16) = true := by decide +kernel
theorem ka9_6 {a : Nat} (h : kd a = 9) : kd (a + 6) = 21 := ofC_k h oc9_6
theorem la9_6 {a : Nat} (h : kd a = 9) : ln (a + 6) = 16 := ofC_l h oc9_6
theorem oc9_7 : (decide (9 < 99) && ofC 9 7 21 16) = true := by decide +kernel
theorem ka9_7 {a : Nat} (h : kd a = 9) : kd (a + 7) = 21 := ofC_k h oc9_7
theorem la9_7 {a : Nat} (h : kd a = 9) : ln (a + 7) = 16 := ofC_l h oc9_7
theorem oc9_8 : (decide (9 < 99) && ofC 9 8 21 16) = true := by decide +kernel
theorem ka9_8 {a : Nat} (h : kd a = 9) : kd (a + 8) = 21 := ofC_k h oc9_8
theorem la9_8 {a : Nat} (h : kd a = 9) : ln (a + 8) = 16 := ofC_l h oc9_8
theorem oc9_9 : (decide (9 < 99) && ofC 9 9 0 0) = true := by decide +kernel
theorem ka9_9 {a : Nat} (h : kd a = 9) : kd (a + 9) = 0 := ofC_k h oc9_9
theorem oc9_10 : (decide (9 < 99) && ofC 9 11 21 8) = true := by decide +kernel
theorem ka9_10 {a : Nat} (h : kd a = 9) : kd (a + 11) = 21 := ofC_k h oc9_10
theorem la9_10 {a : Nat} (h : kd a = 9) : ln (a + 11) = 8 := ofC_l h oc9_10
theorem oc9_11 : (decide (9 < 99) && ofC 9 12 21 8) = true := by decide +kernel
theorem ka9_11 {a : Nat} (h : kd a = 9) : kd (a + 12) = 21 := ofC_k h oc9_11
theorem la9_11 {a : Nat} (h : kd a = 9) : ln (a + 12) = 8 := ofC_l h oc9_11
theorem gs10_0 {a : Nat} (h : kd a = 10) (H : Nat → AC) (M : Me) : gf (hp H M a) 10 0 = some (.ref (a + 1)) := gsR h (by decide +kernel) H M
theorem gs10_1 {a : Nat} (h : kd a = 10) (H : Nat → AC) (M : Me) : gf (hp H M a) 10 1 = some (.ref (a + 2)) := gsR h (by decide +kernel) H M
theorem io10 {a : Nat} (h : kd a = 10) (H : Nat → AC) (M : Me) : isO (hp H M a) 10 = true := isO_hp h (Nat.le_of_ble_eq_true rfl)
theorem oc10_0 : (decide (10 < 99) && ofC 10 1 1 0) = true := by decide +kernel
theorem ka10_0 {a : Nat} (h : kd a = 10) : kd (a + 1) = 1 := ofC_k h oc10_0
theorem oc10_1 : (decide (10 < 99) && ofC 10 2 6 0) = true := by decide +kernel
theorem ka10_1 {a : Nat} (h : kd a = 10) : kd (a + 2) = 6 := ofC_k h oc10_1
theorem gs11_0 {a : Nat} (h : kd a = 11) (H : Nat → AC) (M : Me) : gf (hp H M a) 11 0 = some (.ref (a + 1)) := gsR h (by decide +kernel) H M
theorem gs11_1 {a : Nat} (h : kd a = 11) (H : Nat → AC) (M : Me) : gf (hp H M a) 11 1 = some (.ref (a + 2)) := gsR h (by decide +kernel) H M
theorem gs11_2 {a : Nat} (h : kd a = 11) (H : Nat → AC) (M : Me) : gf (hp H M a) 11 2 = some (.ref (a + 3)) := gsR h (by decide +kernel) H M
theorem gs11_3 {a : Nat} (h : kd a = 11) (H : Nat → AC) (M : Me) : gf (hp H M a) 11 3 = some (.ref (a + 4)) := gsR h (by decide +kernel) H M
theorem gs11_4 {a : Nat} (h : kd a = 11) (H : Nat → AC) (M : Me) : gf (hp H M a) 11 4 = some (.int (jI (M a 4))) := gsI h (by decide +kernel) H M
theorem ps11_4 {a : Nat} (h : kd a = 11) (H : Nat → AC) (M : Me) (v : Int) : pf (hp H M a) 11 4 (.int (jI v)) = some (hp H (st M a 4 v) a) := psI h (by decide +kernel) H M v
theorem gs11_5 {a : Nat} (h : kd a = 11) (H : Nat → AC) (M : Me) : gf (hp H M a) 11 5 = some (.ref (a + 5)) := gsR h (by decide +kernel) H M
theorem gs11_6 {a : Nat} (h : kd a = 11) (H : Nat → AC) (M : Me) : gf (hp H M a) 11 6 = some (.ref (M a 6).toNat) := gsK h (by decide +kernel) H M
theorem ps11_6 {a : Nat} (h : kd a = 11) (H : Nat → AC) (M : Me) (v : Nat) : pf (hp H M a) 11 6 (.ref v) = some (hp H (st M a 6 (v : Int)) a) := psK h (by decide +kernel) H M v
theorem gs11_7 {a : Nat} (h : kd a = 11) (H : Nat → AC) (M : Me) : gf (hp H M a) 11 7 = some (.ref (M a 7).toNat) := gsK h (by decide +kernel) H M
theorem ps11_7 {a : Nat} (h : kd a = 11) (H : Nat → AC) (M : Me) (v : Nat) : pf (hp H M a) 11 7 (.ref v) = some (hp H (st M a 7 (v : Int)) a) := psK h (by decide +kernel) H M v
theorem gs11_8 {a : Nat} (h : kd a = 11) (H : Nat → AC) (M : Me) : gf (hp H M a) 11 8 = some (.ref (a + 33)) := gsR h (by decide +kernel) H M
theorem gs11_9 {a : Nat} (h : kd a = 11) (H : Nat → AC) (M : Me) : gf (hp H M a) 11 9 = some (.ref (a + 36)) := gsR h (by decide +kernel) H M
theorem gs11_10 {a : Nat} (h : kd a = 11) (H : Nat → AC) (M : Me) : gf (hp H M a) 11 10 = some (.ref (a + 41)) := gsR h (by decide +kernel) H M
theorem gs11_11 {a : Nat} (h : kd a = 11) (H : Nat → AC) (M : Me) : gf (hp H M a) 11 11 = some (.ref (a + 46)) := gsR h (by decide +kernel) H M
theorem gs11_12 {a : Nat} (h : kd a = 11) (H : Nat → AC) (M : Me) : gf (hp H M a) 11 12 = some (.ref (a + 47)) := gsR h (by decide +kernel) H M
theorem gs11_13 {a : Nat} (h : kd a = 11) (H : Nat → AC) (M : Me) : gf (hp H M a) 11 13 = some (.ref (a + 149)) := gsR h (by decide +kernel) H M
theorem gs11_14 {a : Nat} (h : kd a = 11) (H : Nat → AC) (M : Me) : gf (hp H M a) 11 14 = some (.ref (a + 162)) := gsR h (by decide +kernel) H M
theorem gs11_15 {a : Nat} (h : kd a = 11) (H : Nat → AC) (M : Me) : gf (hp H M a) 11 15 = some (.long (jL (M a 15))) := gsJ h (by decide +kernel) H M
theorem ps11_15 {a : Nat} (h : kd a = 11) (H : Nat → AC) (M : Me) (v : Int) : pf (hp H M a) 11 15 (.long (jL v)) = some (hp H (st M a 15 v) a) := psJ h (by decide +kernel) H M v
theorem gs11_16 {a : Nat} (h : kd a = 11) (H : Nat → AC) (M : Me) : gf (hp H M a) 11 16 = some (.ref (a + 164)) := gsR h (by decide +kernel) H M
theorem io11 {a : Nat} (h : kd a = 11) (H : Nat → AC) (M : Me) : isO (hp H M a) 11 = true := isO_hp h (Nat.le_of_ble_eq_true rfl)
theorem gs12_0 {a : Nat} (h : kd a = 12) (H : Nat → AC) (M : Me) : gf (hp H M a) 12 0 = some (.ref (a + 1)) := gsR h (by decide +kernel) H M
theorem gs12_1 {a : Nat} (h : kd a = 12) (H : Nat → AC) (M : Me) : gf (hp H M a) 12 1 = some (.int (jI (M a 1))) := gsI h (by decide +kernel) H M
theorem ps12_1 {a : Nat} (h : kd a = 12) (H : Nat → AC) (M : Me) (v : Int) : pf (hp H M a) 12 1 (.int (jI v)) = some (hp H (st M a 1 v) a) := psI h (by decide +kernel) H M v
theorem gs12_2 {a : Nat} (h : kd a = 12) (H : Nat → AC) (M : Me) : gf (hp H M a) 12 2 = some (.int (jI (M a 2))) := gsI h (by decide +kernel) H M
theorem ps12_2 {a : Nat} (h : kd a = 12) (H : Nat → AC) (M : Me) (v : Int) : pf (hp H M a) 12 2 (.int (jI v)) = some (hp H (st M a 2 v) a) := psI h (by decide +kernel) H M v
theorem gs12_3 {a : Nat} (h : kd a = 12) (H : Nat → AC) (M : Me) : gf (hp H M a) 12 3 = some (.int (jI (M a 3))) := gsI h (by decide +kernel) H M
theorem ps12_3 {a : Nat} (h : kd a = 12) (H : Nat → AC) (M : Me) (v : Int) : pf (hp H M a) 12 3 (.int (jI v)) = some (hp H (st M a 3 v) a) := psI h (by decide +kernel) H M v
theorem gs12_4 {a : Nat} (h : kd a = 12) (H : Nat → AC) (M : Me) : gf (hp H M a) 12 4 = some (.int (jI (M a 4))) := gsI h (by decide +kernel) H M
theorem ps12_4 {a : Nat} (h : kd a = 12) (H : Nat → AC) (M : Me) (v : Int) : pf (hp H M a) 12 4 (.int (jI v)) = some (hp H (st M a 4 v) a) := psI h (by decide +kernel) H M v
theorem gs12_5 {a : Nat} (h : kd a = 12) (H : Nat → AC) (M : Me) : gf (hp H M a) 12 5 = some (.int (jI (M a 5))) := gsI h (by decide +kernel) H M
theorem ps12_5 {a : Nat} (h : kd a = 12) (H : Nat → AC) (M : Me) (v : Int) : pf (hp H M a) 12 5 (.int (jI v)) = some (hp H (st M a 5 v) a) := psI h (by decide +kernel) H M v
theorem gs12_6 {a : Nat} (h : kd a = 12) (H : Nat → AC) (M : Me) : gf (hp H M a) 12 6 = some (.int (jI (M a 6))) := gsI h (by decide +kernel) H M
theorem ps12_6 {a : Nat} (h : kd a = 12) (H : Nat → AC) (M : Me) (v : Int) : pf (hp H M a) 12 6 (.int (jI v)) = some (hp H (st M a 6 v) a) := psI h (by decide +kernel) H M v
theorem gs12_7 {a : Nat} (h : kd a = 12) (H : Nat → AC) (M : Me) : gf (hp H M a) 12 7 = some (.int (jI (M a 7))) := gsI h (by decide +kernel) H M
theorem ps12_7 {a : Nat} (h : kd a = 12) (H : Nat → AC) (M : Me) (v : Int) : pf (hp H M a) 12 7 (.int (jI v)) = some (hp H (st M a 7 v) a) := psI h (by decide +kernel) H M v
theorem gs12_8 {a : Nat} (h : kd a = 12) (H : Nat → AC) (M : Me) : gf (hp H M a) 12 8 = some (.int (jI (M a 8))) := gsI h (by decide +kernel) H M
theorem ps12_8 {a : Nat} (h : kd a = 12) (H : Nat → AC) (M : Me) (v : Int) : pf (hp H M a) 12 8 (.int (jI v)) = some (hp H (st M a 8 v) a) := psI h (by decide +kernel) H M v
theorem gs12_9 {a : Nat} (h : kd a = 12) (H : Nat → AC) (M : Me) : gf (hp H M a) 12 9 = some (.ref (a + 2)) := gsR h (by decide +kernel) H M
theorem gs12_10 {a : Nat} (h : kd a = 12) (H : Nat → AC) (M : Me) : gf (hp H M a) 12 10 = some (.ref (a + 3)) := gsR h (by decide +kernel) H M
theorem gs12_11 {a : Nat} (h : kd a = 12) (H : Nat → AC) (M : Me) : gf (hp H M a) 12 11 = some (.ref (a + 4)) := gsR h (by decide +kernel) H M
theorem gs12_12 {a : Nat} (h : kd a = 12) (H : Nat → AC) (M : Me) : gf (hp H M a) 12 12 = some (.ref (a + 5)) := gsR h (by decide +kernel) H M
theorem gs12_13 {a : Nat} (h : kd a = 12) (H : Nat → AC) (M : Me) : gf (hp H M a) 12 13 = some (.ref (a + 6)) := gsR h (by decide +kernel) H M
theorem gs12_14 {a : Nat} (h : kd a = 12) (H : Nat → AC) (M : Me) : gf (hp H M a) 12 14 = some (.ref (a + 7)) := gsR h (by decide +kernel) H M
theorem gs12_15 {a : Nat} (h : kd a = 12) (H : Nat → AC) (M : Me) : gf (hp H M a) 12 15 = some (.ref (a + 8)) := gsR h (by decide +kernel) H M
theorem gs12_16 {a : Nat} (h : kd a = 12) (H : Nat → AC) (M : Me) : gf (hp H M a) 12 16 = some (.ref (a + 9)) := gsR h (by decide +kernel) H M
theorem gs12_17 {a : Nat} (h : kd a = 12) (H : Nat → AC) (M : Me) : gf (hp H M a) 12 17 = some (.ref (a + 10)) := gsR h (by decide +kernel) H M
theorem gs12_18 {a : Nat} (h : kd a = 12) (H : Nat → AC) (M : Me) : gf (hp H M a) 12 18 = some (.ref (a + 11)) := gsR h (by decide +kernel) H M
theorem gs12_19 {a : Nat} (h : kd a = 12) (H : Nat → AC) (M : Me) : gf (hp H M a) 12 19 = some (.ref (a + 12)) := gsR h (by decide +kernel) H M
theorem gs12_20 {a : Nat} (h : kd a = 12) (H : Nat → AC) (M : Me) : gf (hp H M a) 12 20 = some (.ref (a + 13)) := gsR h (by decide +kernel) H M
theorem gs12_21 {a : Nat} (h : kd a = 12) (H : Nat → AC) (M : Me) : gf (hp H M a) 12 21 = some (.ref (a + 14)) := gsR h (by decide +kernel) H M
theorem gs12_22 {a : Nat} (h : kd a = 12) (H : Nat → AC) (M : Me) : gf (hp H M a) 12 22 = some (.ref (a + 15)) := gsR h (by decide +kernel) H M
theorem gs12_23 {a : Nat} (h : kd a = 12) (H : Nat → AC) (M : Me) : gf (hp H M a) 12 23 = some (.ref (a + 16)) := gsR h (by decide +kernel) H M
theorem gs12_24 {a : Nat} (h : kd a = 12) (H : Nat → AC) (M : Me) : gf (hp H M a) 12 24 = some (.ref (a + 17)) := gsR h (by decide +kernel) H M
theorem gs12_25 {a : Nat} (h : kd a = 12) (H : Nat → AC) (M : Me) : gf (hp H M a) 12 25 = some (.ref (a + 18)) := gsR h (by decide +kernel) H M
theorem gs12_26 {a : Nat} (h : kd a = 12) (H : Nat → AC) (M : Me) : gf (hp H M a) 12 26 = some (.ref (a + 19)) := gsR h (by decide +kernel) H M
theorem gs12_27 {a : Nat} (h : kd a = 12) (H : Nat → AC) (M : Me) : gf (hp H M a) 12 27 = some (.ref (a + 20)) := gsR h (by decide +kernel) H M
theorem gs12_28 {a : Nat} (h : kd a = 12) (H : Nat → AC) (M : Me) : gf (hp H M a) 12 28 = some (.ref (a + 21)) := gsR h (by decide +kernel) H M
theorem gs12_29 {a : Nat} (h : kd a = 12) (H : Nat → AC) (M : Me) : gf (hp H M a) 12 29 = some (.ref (a + 22)) := gsR h (by decide +kernel) H M
theorem gs12_30 {a : Nat} (h : kd a = 12) (H : Nat → AC) (M : Me) : gf (hp H M a) 12 30 = some (.ref (a + 23)) := gsR h (by decide +kernel) H M
theorem gs12_31 {a : Nat} (h : kd a = 12) (H : Nat → AC) (M : Me) : gf (hp H M a) 12 31 = some (.ref (a + 24)) := gsR h (by decide +kernel) H M
theorem gs12_32 {a : Nat} (h : kd a = 12) (H : Nat → AC) (M : Me) : gf (hp H M a) 12 32 = some (.ref (a + 25)) := gsR h (by decide +kernel) H M
theorem gs12_33 {a : Nat} (h : kd a = 12) (H : Nat → AC) (M : Me) : gf (hp H M a) 12 33 = some (.ref (a + 26)) := gsR h (by decide +kernel) H M
theorem gs12_34 {a : Nat} (h : kd a = 12) (H : Nat → AC) (M : Me) : gf (hp H M a) 12 34 = some (.ref (a + 27)) := gsR h (by decide +kernel) H M
theorem gs12_35 {a : Nat} (h : kd a = 12) (H : Nat → AC) (M : Me) : gf (hp H M a) 12 35 = some (.ref (a + 28)) := gsR h (by decide +kernel) H M
theorem gs12_36 {a : Nat} (h : kd a = 12) (H : Nat → AC) (M : Me) : gf (hp H M a) 12 36 = some (.ref (a + 29)) := gsR h (by decide +kernel) H M
theorem gs12_37 {a : Nat} (h : kd a = 12) (H : Nat → AC) (M : Me) : gf (hp H M a) 12 37 = some (.ref (a + 30)) := gsR h (by decide +kernel) H M
theorem gs12_38 {a : Nat} (h : kd a = 12) (H : Nat → AC) (M : Me) : gf (hp H M a) 12 38 = some (.ref (a + 31)) := gsR h (by decide +kernel) H M
theorem gs12_39 {a : Nat} (h : kd a = 12) (H : Nat → AC) (M : Me) : gf (hp H M a) 12 39 = some (.int (jI (M a 39))) := gsI h (by decide +kernel) H M
theorem ps12_39 {a : Nat} (h : kd a = 12) (H : Nat → AC) (M : Me) (v : Int) : pf (hp H M a) 12 39 (.int (jI v)) = some (hp H (st M a 39 v) a) := psI h (by decide +kernel) H M v
theorem gs12_40 {a : Nat} (h : kd a = 12) (H : Nat → AC) (M : Me) : gf (hp H M a) 12 40 = some (.ref (a + 32)) := gsR h (by decide +kernel) H M
theorem gs12_41 {a : Nat} (h : kd a = 12) (H : Nat → AC) (M : Me) : gf (hp H M a) 12 41 = some (.ref (a + 33)) := gsR h (by decide +kernel) H M
theorem gs12_42 {a : Nat} (h : kd a = 12) (H : Nat → AC) (M : Me) : gf (hp H M a) 12 42 = some (.ref (a + 34)) := gsR h (by decide +kernel) H M
theorem gs12_43 {a : Nat} (h : kd a = 12) (H : Nat → AC) (M : Me) : gf (hp H M a) 12 43 = some (.ref (a + 35)) := gsR h (by decide +kernel) H M
theorem gs12_44 {a : Nat} (h : kd a = 12) (H : Nat → AC) (M : Me) : gf (hp H M a) 12 44 = some (.ref (a + 36)) := gsR h (by decide +kernel) H M
theorem gs12_45 {a : Nat} (h : kd a = 12) (H : Nat → AC) (M : Me) : gf (hp H M a) 12 45 = some (.ref (a + 37)) := gsR h (by decide +kernel) H M
theorem gs12_46 {a : Nat} (h : kd a = 12) (H : Nat → AC) (M : Me) : gf (hp H M a) 12 46 = some (.ref (a + 38)) := gsR h (by decide +kernel) H M
theorem gs12_47 {a : Nat} (h : kd a = 12) (H : Nat → AC) (M : Me) : gf (hp H M a) 12 47 = some (.ref (a + 39)) := gsR h (by decide +kernel) H M
theorem gs12_48 {a : Nat} (h : kd a = 12) (H : Nat → AC) (M : Me) : gf (hp H M a) 12 48 = some (.ref (a + 40)) := gsR h (by decide +kernel) H M
theorem gs12_49 {a : Nat} (h : kd a = 12) (H : Nat → AC) (M : Me) : gf (hp H M a) 12 49 = some (.int (jI (M a 49))) := gsI h (by decide +kernel) H M
theorem ps12_49 {a : Nat} (h : kd a = 12) (H : Nat → AC) (M : Me) (v : Int) : pf (hp H M a) 12 49 (.int (jI v)) = some (hp H (st M a 49 v) a) := psI h (by decide +kernel) H M v
theorem gs12_50 {a : Nat} (h : kd a = 12) (H : Nat → AC) (M : Me) : gf (hp H M a) 12 50 = some (.int (jI (M a 50))) := gsI h (by decide +kernel) H M
theorem ps12_50 {a : Nat} (h : kd a = 12) (H : Nat → AC) (M : Me) (v : Int) : pf (hp H M a) 12 50 (.int (jI v)) = some (hp H (st M a 50 v) a) := psI h (by decide +kernel) H M v
theorem gs12_51 {a : Nat} (h : kd a = 12) (H : Nat → AC) (M : Me) : gf (hp H M a) 12 51 = some (.int (jI (M a 51))) := gsI h (by decide +kernel) H M
theorem ps12_51 {a : Nat} (h : kd a = 12) (H : Nat → AC) (M : Me) (v : Int) : pf (hp H M a) 12 51 (.int (jI v)) = some (hp H (st M a 51 v) a) := psI h (by decide +kernel) H M v
theorem gs12_52 {a : Nat} (h : kd a = 12) (H : Nat → AC) (M : Me) : gf (hp H M a) 12 52 = some (.ref (a + 41)) := gsR h (by decide +kernel) H M
theorem gs12_53 {a : Nat} (h : kd a = 12) (H : Nat → AC) (M : Me) : gf (hp H M a) 12 53 = some (.ref (a + 42)) := gsR h (by decide +kernel) H M
theorem gs12_54 {a : Nat} (h : kd a = 12) (H : Nat → AC) (M : Me) : gf (hp H M a) 12 54 = some (.long (jL (M a 54))) := gsJ h (by decide +kernel) H M
theorem ps12_54 {a : Nat} (h : kd a = 12) (H : Nat → AC) (M : Me) (v : Int) : pf (hp H M a) 12 54 (.long (jL v)) = some (hp H (st M a 54 v) a) := psJ h (by decide +kernel) H M v
theorem gs12_55 {a : Nat} (h : kd a = 12) (H : Nat → AC) (M : Me) : gf (hp H M a) 12 55 = some (.long (jL (M a 55))) := gsJ h (by decide +kernel) H M
theorem ps12_55 {a : Nat} (h : kd a = 12) (H : Nat → AC) (M : Me) (v : Int) : pf (hp H M a) 12 55 (.long (jL v)) = some (hp H (st M a 55 v) a) := psJ h (by decide +kernel) H M v
theorem gs12_56 {a : Nat} (h : kd a = 12) (H : Nat → AC) (M : Me) : gf (hp H M a) 12 56 = some (.long (jL (M a 56))) := gsJ h (by decide +kernel) H M
theorem ps12_56 {a : Nat} (h : kd a = 12) (H : Nat → AC) (M : Me) (v : Int) : pf (hp H M a) 12 56 (.long (jL v)) = some (hp H (st M a 56 v) a) := psJ h (by decide +kernel) H M v
theorem gs12_57 {a : Nat} (h : kd a = 12) (H : Nat → AC) (M : Me) : gf (hp H M a) 12 57 = some (.long (jL (M a 57))) := gsJ h (by decide +kernel) H M
theorem ps12_57 {a : Nat} (h : kd a = 12) (H : Nat → AC) (M : Me) (v : Int) : pf (hp H M a) 12 57 (.long (jL v)) = some (hp H (st M a 57 v) a) := psJ h (by decide +kernel) H M v
theorem gs12_58 {a : Nat} (h : kd a = 12) (H : Nat → AC) (M : Me) : gf (hp H M a) 12 58 = some (.int (jI (M a 58))) := gsI h (by decide +kernel) H M
theorem ps12_58 {a : Nat} (h : kd a = 12) (H : Nat → AC) (M : Me) (v : Int) : pf (hp H M a) 12 58 (.int (jI v)) = some (hp H (st M a 58 v) a) := psI h (by decide +kernel) H M v
theorem gs12_59 {a : Nat} (h : kd a = 12) (H : Nat → AC) (M : Me) : gf (hp H M a) 12 59 = some (.int (jI (M a 59))) := gsI h (by decide +kernel) H M
theorem ps12_59 {a : Nat} (h : kd a = 12) (H : Nat → AC) (M : Me) (v : Int) : pf (hp H M a) 12 59 (.int (jI v)) = some (hp H (st M a 59 v) a) := psI h (by decide +kernel) H M v
theorem gs12_60 {a : Nat} (h : kd a = 12) (H : Nat → AC) (M : Me) : gf (hp H M a) 12 60 = some (.ref (a + 43)) := gsR h (by decide +kernel) H M
theorem gs12_61 {a : Nat} (h : kd a = 12) (H : Nat → AC) (M : Me) : gf (hp H M a) 12 61 = some (.ref (a + 44)) := gsR h (by decide +kernel) H M
theorem gs12_62 {a : Nat} (h : kd a = 12) (H : Nat → AC) (M : Me) : gf (hp H M a) 12 62 = some (.ref (a + 45)) := gsR h (by decide +kernel) H M
theorem gs12_63 {a : Nat} (h : kd a = 12) (H : Nat → AC) (M : Me) : gf (hp H M a) 12 63 = some (.int (jI (M a 63))) := gsI h (by decide +kernel) H M
theorem ps12_63 {a : Nat} (h : kd a = 12) (H : Nat → AC) (M : Me) (v : Int) : pf (hp H M a) 12 63 (.int (jI v)) = some (hp H (st M a 63 v) a) := psI h (by decide +kernel) H M v
theorem gs12_64 {a : Nat} (h : kd a = 12) (H : Nat → AC) (M : Me) : gf (hp H M a) 12 64 = some (.int (jI (M a 64))) := gsI h (by decide +kernel) H M
theorem ps12_64 {a : Nat} (h : kd a = 12) (H : Nat → AC) (M : Me) (v : Int) : pf (hp H M a) 12 64 (.int (jI v)) = some (hp H (st M a 64 v) a) := psI h (by decide +kernel) H M v
theorem gs12_65 {a : Nat} (h : kd a = 12) (H : Nat → AC) (M : Me) : gf (hp H M a) 12 65 = some (.long (jL (M a 65))) := gsJ h (by decide +kernel) H M
theorem ps12_65 {a : Nat} (h : kd a = 12) (H : Nat → AC) (M : Me) (v : Int) : pf (hp H M a) 12 65 (.long (jL v)) = some (hp H (st M a 65 v) a) := psJ h (by decide +kernel) H M v
theorem gs12_66 {a : Nat} (h : kd a = 12) (H : Nat → AC) (M : Me) : gf (hp H M a) 12 66 = some (.int (jI (M a 66))) := gsI h (by decide +kernel) H M
theorem ps12_66 {a : Nat} (h : kd a = 12) (H : Nat → AC) (M : Me) (v : Int) : pf (hp H M a) 12 66 (.int (jI v)) = some (hp H (st M a 66 v) a) := psI h (by decide +kernel) H M v
theorem gs12_67 {a : Nat} (h : kd a = 12) (H : Nat → AC) (M : Me) : gf (hp H M a) 12 67 = some (.ref (a + 46)) := gsR h (by decide +kernel) H M
theorem gs12_68 {a : Nat} (h : kd a = 12) (H : Nat → AC) (M : Me) : gf (hp H M a) 12 68 = some (.ref (a + 47)) := gsR h (by decide +kernel) H M
theorem gs12_69 {a : Nat} (h : kd a = 12) (H : Nat → AC) (M : Me) : gf (hp H M a) 12 69 = some (.ref (a + 48)) := gsR h (by decide +kernel) H M
theorem gs12_70 {a : Nat} (h : kd a = 12) (H : Nat → AC) (M : Me) : gf (hp H M a) 12 70 = some (.ref (a + 49)) := gsR h (by decide +kernel) H M
theorem gs12_71 {a : Nat} (h : kd a = 12) (H : Nat → AC) (M : Me) : gf (hp H M a) 12 71 = some (.ref (a + 50)) := gsR h (by decide +kernel) H M
theorem gs12_72 {a : Nat} (h : kd a = 12) (H : Nat → AC) (M : Me) : gf (hp H M a) 12 72 = some (.ref (a + 51)) := gsR h (by decide +kernel) H M
theorem gs12_73 {a : Nat} (h : kd a = 12) (H : Nat → AC) (M : Me) : gf (hp H M a) 12 73 = some (.ref (a + 52)) := gsR h (by decide +kernel) H M
theorem gs12_74 {a : Nat} (h : kd a = 12) (H : Nat → AC) (M : Me) : gf (hp H M a) 12 74 = some (.ref (a + 53)) := gsR h (by decide +kernel) H M
theorem gs12_75 {a : Nat} (h : kd a = 12) (H : Nat → AC) (M : Me) : gf (hp H M a) 12 75 = some (.ref (a + 54)) := gsR h (by decide +kernel) H M
theorem gs12_76 {a : Nat} (h : kd a = 12) (H : Nat → AC) (M : Me) : gf (hp H M a) 12 76 = some (.ref (a + 55)) := gsR h (by decide +kernel) H M
theorem gs12_77 {a : Nat} (h : kd a = 12) (H : Nat → AC) (M : Me) : gf (hp H M a) 12 77 = some (.ref (a + 56)) := gsR h (by decide +kernel) H M
theorem gs12_78 {a : Nat} (h : kd a = 12) (H : Nat → AC) (M : Me) : gf (hp H M a) 12 78 = some (.ref (a + 57)) := gsR h (by decide +kernel) H M
theorem gs12_79 {a : Nat} (h : kd a = 12) (H : Nat → AC) (M : Me) : gf (hp H M a) 12 79 = some (.ref (a + 58)) := gsR h (by decide +kernel) H M
theorem gs12_80 {a : Nat} (h : kd a = 12) (H : Nat → AC) (M : Me) : gf (hp H M a) 12 80 = some (.ref (a + 59)) := gsR h (by decide +kernel) H M
theorem gs12_81 {a : Nat} (h : kd a = 12) (H : Nat → AC) (M : Me) : gf (hp H M a) 12 81 = some (.ref (a + 60)) := gsR h (by decide +kernel) H M
theorem gs12_82 {a : Nat} (h : kd a = 12) (H : Nat → AC) (M : Me) : gf (hp H M a) 12 82 = some (.ref (a + 61)) := gsR h (by decide +kernel) H M
theorem gs12_83 {a : Nat} (h : kd a = 12) (H : Nat → AC) (M : Me) : gf (hp H M a) 12 83 = some (.ref (a + 62)) := gsR h (by decide +kernel) H M
theorem gs12_84 {a : Nat} (h : kd a = 12) (H : Nat → AC) (M : Me) : gf (hp H M a) 12 84 = some (.ref (a + 63)) := gsR h (by decide +kernel) H M
theorem gs12_85 {a : Nat} (h : kd a = 12) (H : Nat → AC) (M : Me) : gf (hp H M a) 12 85 = some (.ref (a + 64)) := gsR h (by decide +kernel) H M
theorem gs12_86 {a : Nat} (h : kd a = 12) (H : Nat → AC) (M : Me) : gf (hp H M a) 12 86 = some (.ref (a + 65)) := gsR h (by decide +kernel) H M
theorem gs12_87 {a : Nat} (h : kd a = 12) (H : Nat → AC) (M : Me) : gf (hp H M a) 12 87 = some (.ref (a + 66)) := gsR h (by decide +kernel) H M
theorem gs12_88 {a : Nat} (h : kd a = 12) (H : Nat → AC) (M : Me) : gf (hp H M a) 12 88 = some (.ref (a + 67)) := gsR h (by decide +kernel) H M
theorem gs12_89 {a : Nat} (h : kd a = 12) (H : Nat → AC) (M : Me) : gf (hp H M a) 12 89 = some (.ref (a + 68)) := gsR h (by decide +kernel) H M
theorem gs12_90 {a : Nat} (h : kd a = 12) (H : Nat → AC) (M : Me) : gf (hp H M a) 12 90 = some (.ref (a + 69)) := gsR h (by decide +kernel) H M
theorem gs12_91 {a : Nat} (h : kd a = 12) (H : Nat → AC) (M : Me) : gf (hp H M a) 12 91 = some (.ref (a + 70)) := gsR h (by decide +kernel) H M
theorem gs12_92 {a : Nat} (h : kd a = 12) (H : Nat → AC) (M : Me) : gf (hp H M a) 12 92 = some (.int (jI (M a 92))) := gsI h (by decide +kernel) H M
theorem ps12_92 {a : Nat} (h : kd a = 12) (H : Nat → AC) (M : Me) (v : Int) : pf (hp H M a) 12 92 (.int (jI v)) = some (hp H (st M a 92 v) a) := psI h (by decide +kernel) H M v
theorem gs12_93 {a : Nat} (h : kd a = 12) (H : Nat → AC) (M : Me) : gf (hp H M a) 12 93 = some (.ref (a + 71)) := gsR h (by decide +kernel) H M
theorem gs12_94 {a : Nat} (h : kd a = 12) (H : Nat → AC) (M : Me) : gf (hp H M a) 12 94 = some (.int (jI (M a 94))) := gsI h (by decide +kernel) H M
theorem ps12_94 {a : Nat} (h : kd a = 12) (H : Nat → AC) (M : Me) (v : Int) : pf (hp H M a) 12 94 (.int (jI v)) = some (hp H (st M a 94 v) a) := psI h (by decide +kernel) H M v
theorem gs12_95 {a : Nat} (h : kd a = 12) (H : Nat → AC) (M : Me) : gf (hp H M a) 12 95 = some (.int (jI (M a 95))) := gsI h (by decide +kernel) H M
theorem ps12_95 {a : Nat} (h : kd a = 12) (H : Nat → AC) (M : Me) (v : Int) : pf (hp H M a) 12 95 (.int (jI v)) = some (hp H (st M a 95 v) a) := psI h (by decide +kernel) H M v
theorem gs12_96 {a : Nat} (h : kd a = 12) (H : Nat → AC) (M : Me) : gf (hp H M a) 12 96 = some (.int (jI (M a 96))) := gsI h (by decide +kernel) H M
theorem ps12_96 {a : Nat} (h : kd a = 12) (H : Nat → AC) (M : Me) (v : Int) : pf (hp H M a) 12 96 (.int (jI v)) = some (hp H (st M a 96 v) a) := psI h (by decide +kernel) H M v
theorem gs12_97 {a : Nat} (h : kd a = 12) (H : Nat → AC) (M : Me) : gf (hp H M a) 12 97 = some (.ref (a + 72)) := gsR h (by decide +kernel) H M
theorem gs12_98 {a : Nat} (h : kd a = 12) (H : Nat → AC) (M : Me) : gf (hp H M a) 12 98 = some (.int (jI (M a 98))) := gsI h (by decide +kernel) H M
theorem ps12_98 {a : Nat} (h : kd a = 12) (H : Nat → AC) (M : Me) (v : Int) : pf (hp H M a) 12 98 (.int (jI v)) = some (hp H (st M a 98 v) a) := psI h (by decide +kernel) H M v
theorem gs12_99 {a : Nat} (h : kd a = 12) (H : Nat → AC) (M : Me) : gf (hp H M a) 12 99 = some (.long (jL (M a 99))) := gsJ h (by decide +kernel) H M
theorem ps12_99 {a : Nat} (h : kd a = 12) (H : Nat → AC) (M : Me) (v : Int) : pf (hp H M a) 12 99 (.long (jL v)) = some (hp H (st M a 99 v) a) := psJ h (by decide +kernel) H M v
theorem gs12_100 {a : Nat} (h : kd a = 12) (H : Nat → AC) (M : Me) : gf (hp H M a) 12 100 = some (.int (jI (M a 100))) := gsI h (by decide +kernel) H M
theorem ps12_100 {a : Nat} (h : kd a = 12) (H : Nat → AC) (M : Me) (v : Int) : pf (hp H M a) 12 100 (.int (jI v)) = some (hp H (st M a 100 v) a) := psI h (by decide +kernel) H M v
theorem gs12_101 {a : Nat} (h : kd a = 12) (H : Nat → AC) (M : Me) : gf (hp H M a) 12 101 = some (.ref (a + 73)) := gsR h (by decide +kernel) H M
theorem gs12_102 {a : Nat} (h : kd a = 12) (H : Nat → AC) (M : Me) : gf (hp H M a) 12 102 = some (.int (jI (M a 102))) := gsI h (by decide +kernel) H M
theorem ps12_102 {a : Nat} (h : kd a = 12) (H : Nat → AC) (M : Me) (v : Int) : pf (hp H M a) 12 102 (.int (jI v)) = some (hp H (st M a 102 v) a) := psI h (by decide +kernel) H M v
theorem io12 {a : Nat} (h : kd a = 12) (H : Nat → AC) (M : Me) : isO (hp H M a) 12 = true := isO_hp h (Nat.le_of_ble_eq_true rfl)
theorem k8 : kd 8 = 11 := by decide +kernel
theorem k9 : kd 9 = 10 := by decide +kernel
theorem k10 : kd 10 = 1 := by decide +kernel
theorem k11 : kd 11 = 6 := by decide +kernel
theorem k12 : kd 12 = 21 := by decide +kernel
theorem l12 : ln 12 = 1600 := by decide +kernel
theorem k13 : kd 13 = 0 := by decide +kernel
theorem k14 : kd 14 = 21 := by decide +kernel
theorem l14 : ln 14 = 1600 := by decide +kernel
theorem k15 : kd 15 = 9 := by decide +kernel
theorem k16 : kd 16 = 21 := by decide +kernel
theorem l16 : ln 16 = 5 := by decide +kernel
theorem k17 : kd 17 = 21 := by decide +kernel
theorem l17 : ln 17 = 40 := by decide +kernel
theorem k18 : kd 18 = 21 := by decide +kernel
theorem l18 : ln 18 = 32 := by decide +kernel
theorem k19 : kd 19 = 21 := by decide +kernel
theorem l19 : ln 19 = 6 := by decide +kernel
theorem k20 : kd 20 = 21 := by decide +kernel
theorem l20 : ln 20 = 6 := by decide +kernel
theorem k21 : kd 21 = 21 := by decide +kernel
theorem l21 : ln 21 = 16 := by decide +kernel
theorem k22 : kd 22 = 21 := by decide +kernel
theorem l22 : ln 22 = 16 := by decide +kernel
theorem k23 : kd 23 = 21 := by decide +kernel
theorem l23 : ln 23 = 16 := by decide +kernel
theorem k24 : kd 24 = 0 := by decide +kernel
theorem k25 : kd 25 = 21 := by decide +kernel
theorem l25 : ln 25 = 1600 := by decide +kernel
theorem k26 : kd 26 = 21 := by decide +kernel
theorem l26 : ln 26 = 8 := by decide +kernel
theorem k27 : kd 27 = 21 := by decide +kernel
theorem l27 : ln 27 = 8 := by decide +kernel
theorem k28 : kd 28 = 9 := by decide +kernel
theorem k29 : kd 29 = 21 := by decide +kernel
theorem l29 : ln 29 = 5 := by decide +kernel
theorem k30 : kd 30 = 21 := by decide +kernel
theorem l30 : ln 30 = 40 := by decide +kernel
theorem k31 : kd 31 = 21 := by decide +kernel
theorem l31 : ln 31 = 32 := by decide +kernel
theorem k32 : kd 32 = 21 := by decide +kernel
theorem l32 : ln 32 = 6 := by decide +kernel
theorem k33 : kd 33 = 21 := by decide +kernel
theorem l33 : ln 33 = 6 := by decide +kernel
theorem k34 : kd 34 = 21 := by decide +kernel
theorem l34 : ln 34 = 16 := by decide +kernel
theorem k35 : kd 35 = 21 := by decide +kernel
theorem l35 : ln 35 = 16 := by decide +kernel
theorem k36 : kd 36 = 21 := by decide +kernel
theorem l36 : ln 36 = 16 := by decide +kernel
theorem k37 : kd 37 = 0 := by decide +kernel
theorem k38 : kd 38 = 21 := by decide +kernel
theorem l38 : ln 38 = 1600 := by decide +kernel
theorem k39 : kd 39 = 21 := by decide +kernel
theorem l39 : ln 39 = 8 := by decide +kernel
theorem k40 : kd 40 = 21 := by decide +kernel
theorem l40 : ln 40 = 8 := by decide +kernel
theorem k41 : kd 41 = 5 := by decide +kernel
theorem k42 : kd 42 = 8 := by decide +kernel
theorem k43 : kd 43 = 21 := by decide +kernel
theorem l43 : ln 43 = 64 := by decide +kernel
theorem k44 : kd 44 = 7 := by decide +kernel
theorem k45 : kd 45 = 21 := by decide +kernel
theorem l45 : ln 45 = 32 := by decide +kernel
theorem k46 : kd 46 = 21 := by decide +kernel
theorem l46 : ln 46 = 32 := by decide +kernel
theorem k47 : kd 47 = 21 := by decide +kernel
theorem l47 : ln 47 = 24 := by decide +kernel
theorem k48 : kd 48 = 21 := by decide +kernel
theorem l48 : ln 48 = 6 := by decide +kernel
theorem k49 : kd 49 = 7 := by decide +kernel
theorem k50 : kd 50 = 21 := by decide +kernel
theorem l50 : ln 50 = 32 := by decide +kernel
theorem k51 : kd 51 = 21 := by decide +kernel
theorem l51 : ln 51 = 32 := by decide +kernel
theorem k52 : kd 52 = 21 := by decide +kernel
theorem l52 : ln 52 = 24 := by decide +kernel
theorem k53 : kd 53 = 21 := by decide +kernel
theorem l53 : ln 53 = 6 := by decide +kernel
theorem k54 : kd 54 = 23 := by decide +kernel
theorem l54 : ln 54 = 9 := by decide +kernel
theorem k55 : kd 55 = 3 := by decide +kernel
theorem k56 : kd 56 = 23 := by decide +kernel
theorem l56 : ln 56 = 20 := by decide +kernel
theorem k57 : kd 57 = 7 := by decide +kernel
theorem k58 : kd 58 = 21 := by decide +kernel
theorem l58 : ln 58 = 32 := by decide +kernel
theorem k59 : kd 59 = 21 := by decide +kernel
theorem l59 : ln 59 = 32 := by decide +kernel
theorem k60 : kd 60 = 21 := by decide +kernel
theorem l60 : ln 60 = 24 := by decide +kernel
theorem k61 : kd 61 = 21 := by decide +kernel
theorem l61 : ln 61 = 6 := by decide +kernel
theorem k62 : kd 62 = 7 := by decide +kernel
theorem k63 : kd 63 = 21 := by decide +kernel
theorem l63 : ln 63 = 32 := by decide +kernel
theorem k64 : kd 64 = 21 := by decide +kernel
theorem l64 : ln 64 = 32 := by decide +kernel
theorem k65 : kd 65 = 21 := by decide +kernel
theorem l65 : ln 65 = 24 := by decide +kernel
theorem k66 : kd 66 = 21 := by decide +kernel
theorem l66 : ln 66 = 6 := by decide +kernel
theorem k67 : kd 67 = 7 := by decide +kernel
theorem k68 : kd 68 = 21 := by decide +kernel
theorem l68 : ln 68 = 32 := by decide +kernel
theorem k69 : kd 69 = 21 := by decide +kernel
theorem l69 : ln 69 = 32 := by decide +kernel
theorem k70 : kd 70 = 21 := by decide +kernel
theorem l70 : ln 70 = 24 := by decide +kernel
theorem k71 : kd 71 = 21 := by decide +kernel
theorem l71 : ln 71 = 6 := by decide +kernel
theorem k72 : kd 72 = 7 := by decide +kernel
theorem k73 : kd 73 = 21 := by decide +kernel
theorem l73 : ln 73 = 32 := by decide +kernel
theorem k74 : kd 74 = 21 := by decide +kernel
theorem l74 : ln 74 = 32 := by decide +kernel
theorem k75 : kd 75 = 21 := by decide +kernel
theorem l75 : ln 75 = 24 := by decide +kernel
theorem k76 : kd 76 = 21 := by decide +kernel
theorem l76 : ln 76 = 6 := by decide +kernel
theorem k77 : kd 77 = 7 := by decide +kernel
theorem k78 : kd 78 = 21 := by decide +kernel
theorem l78 : ln 78 = 32 := by decide +kernel
theorem k79 : kd 79 = 21 := by decide +kernel
theorem l79 : ln 79 = 32 := by decide +kernel
theorem k80 : kd 80 = 21 := by decide +kernel
theorem l80 : ln 80 = 24 := by decide +kernel
theorem k81 : kd 81 = 21 := by decide +kernel
theorem l81 : ln 81 = 6 := by decide +kernel
theorem k82 : kd 82 = 7 := by decide +kernel
theorem k83 : kd 83 = 21 := by decide +kernel
theorem l83 : ln 83 = 32 := by decide +kernel
theorem k84 : kd 84 = 21 := by decide +kernel
theorem l84 : ln 84 = 32 := by decide +kernel
theorem k85 : kd 85 = 21 := by decide +kernel
theorem l85 : ln 85 = 24 := by decide +kernel
theorem k86 : kd 86 = 21 := by decide +kernel
theorem l86 : ln 86 = 6 := by decide +kernel
theorem k87 : kd 87 = 7 := by decide +kernel
theorem k88 : kd 88 = 21 := by decide +kernel
theorem l88 : ln 88 = 32 := by decide +kernel
theorem k89 : kd 89 = 21 := by decide +kernel
theorem l89 : ln 89 = 32 := by decide +kernel
theorem k90 : kd 90 = 21 := by decide +kernel
theorem l90 : ln 90 = 24 := by decide +kernel
theorem k91 : kd 91 = 21 := by decide +kernel
theorem l91 : ln 91 = 6 := by decide +kernel
theorem k92 : kd 92 = 7 := by decide +kernel
theorem k93 : kd 93 = 21 := by decide +kernel
theorem l93 : ln 93 = 32 := by decide +kernel
theorem k94 : kd 94 = 21 := by decide +kernel
theorem l94 : ln 94 = 32 := by decide +kernel
theorem k95 : kd 95 = 21 := by decide +kernel
theorem l95 : ln 95 = 24 := by decide +kernel
theorem k96 : kd 96 = 21 := by decide +kernel
theorem l96 : ln 96 = 6 := by decide +kernel
theorem k97 : kd 97 = 7 := by decide +kernel
theorem k98 : kd 98 = 21 := by decide +kernel
theorem l98 : ln 98 = 32 := by decide +kernel
theorem k99 : kd 99 = 21 := by decide +kernel
theorem l99 : ln 99 = 32 := by decide +kernel
theorem k100 : kd 100 = 21 := by decide +kernel
theorem l100 : ln 100 = 24 := by decide +kernel
theorem k101 : kd 101 = 21 := by decide +kernel
theorem l101 : ln 101 = 6 := by decide +kernel
theorem k102 : kd 102 = 7 := by decide +kernel
theorem k103 : kd 103 = 21 := by decide +kernel
theorem l103 : ln 103 = 32 := by decide +kernel
theorem k104 : kd 104 = 21 := by decide +kernel
theorem l104 : ln 104 = 32 := by decide +kernel
theorem k105 : kd 105 = 21 := by decide +kernel
theorem l105 : ln 105 = 24 := by decide +kernel
theorem k106 : kd 106 = 21 := by decide +kernel
theorem l106 : ln 106 = 6 := by decide +kernel
theorem k107 : kd 107 = 7 := by decide +kernel
theorem k108 : kd 108 = 21 := by decide +kernel
theorem l108 : ln 108 = 32 := by decide +kernel
theorem k109 : kd 109 = 21 := by decide +kernel
theorem l109 : ln 109 = 32 := by decide +kernel
theorem k110 : kd 110 = 21 := by decide +kernel
theorem l110 : ln 110 = 24 := by decide +kernel
theorem k111 : kd 111 = 21 := by decide +kernel
theorem l111 : ln 111 = 6 := by decide +kernel
theorem k112 : kd 112 = 7 := by decide +kernel
theorem k113 : kd 113 = 21 := by decide +kernel
theorem l113 : ln 113 = 32 := by decide +kernel
theorem k114 : kd 114 = 21 := by decide +kernel
theorem l114 : ln 114 = 32 := by decide +kernel
theorem k115 : kd 115 = 21 := by decide +kernel
theorem l115 : ln 115 = 24 := by decide +kernel
theorem k116 : kd 116 = 21 := by decide +kernel
theorem l116 : ln 116 = 6 := by decide +kernel
theorem k117 : kd 117 = 7 := by decide +kernel
theorem k118 : kd 118 = 21 := by decide +kernel
theorem l118 : ln 118 = 32 := by decide +kernel
theorem k119 : kd 119 = 21 := by decide +kernel
theorem l119 : ln 119 = 32 := by decide +kernel
theorem k120 : kd 120 = 21 := by decide +kernel
theorem l120 : ln 120 = 24 := by decide +kernel
theorem k121 : kd 121 = 21 := by decide +kernel
theorem l121 : ln 121 = 6 := by decide +kernel
theorem k122 : kd 122 = 7 := by decide +kernel
theorem k123 : kd 123 = 21 := by decide +kernel
theorem l123 : ln 123 = 32 := by decide +kernel
theorem k124 : kd 124 = 21 := by decide +kernel
theorem l124 : ln 124 = 32 := by decide +kernel
theorem k125 : kd 125 = 21 := by decide +kernel
theorem l125 : ln 125 = 24 := by decide +kernel
theorem k126 : kd 126 = 21 := by decide +kernel
theorem l126 : ln 126 = 6 := by decide +kernel
theorem k127 : kd 127 = 7 := by decide +kernel
theorem k128 : kd 128 = 21 := by decide +kernel
theorem l128 : ln 128 = 32 := by decide +kernel
theorem k129 : kd 129 = 21 := by decide +kernel
theorem l129 : ln 129 = 32 := by decide +kernel
theorem k130 : kd 130 = 21 := by decide +kernel
theorem l130 : ln 130 = 24 := by decide +kernel
theorem k131 : kd 131 = 21 := by decide +kernel
theorem l131 : ln 131 = 6 := by decide +kernel
theorem k132 : kd 132 = 7 := by decide +kernel
theorem k133 : kd 133 = 21 := by decide +kernel
theorem l133 : ln 133 = 32 := by decide +kernel
theorem k134 : kd 134 = 21 := by decide +kernel
theorem l134 : ln 134 = 32 := by decide +kernel
theorem k135 : kd 135 = 21 := by decide +kernel
theorem l135 : ln 135 = 24 := by decide +kernel
theorem k136 : kd 136 = 21 := by decide +kernel
theorem l136 : ln 136 = 6 := by decide +kernel
theorem k137 : kd 137 = 7 := by decide +kernel
theorem k138 : kd 138 = 21 := by decide +kernel
theorem l138 : ln 138 = 32 := by decide +kernel
theorem k139 : kd 139 = 21 := by decide +kernel
theorem l139 : ln 139 = 32 := by decide +kernel
theorem k140 : kd 140 = 21 := by decide +kernel
theorem l140 : ln 140 = 24 := by decide +kernel
theorem k141 : kd 141 = 21 := by decide +kernel
theorem l141 : ln 141 = 6 := by decide +kernel
theorem k142 : kd 142 = 7 := by decide +kernel
theorem k143 : kd 143 = 21 := by decide +kernel
theorem l143 : ln 143 = 32 := by decide +kernel
theorem k144 : kd 144 = 21 := by decide +kernel
theorem l144 : ln 144 = 32 := by decide +kernel
theorem k145 : kd 145 = 21 := by decide +kernel
theorem l145 : ln 145 = 24 := by decide +kernel
theorem k146 : kd 146 = 21 := by decide +kernel
theorem l146 : ln 146 = 6 := by decide +kernel
theorem k147 : kd 147 = 7 := by decide +kernel
theorem k148 : kd 148 = 21 := by decide +kernel
theorem l148 : ln 148 = 32 := by decide +kernel
theorem k149 : kd 149 = 21 := by decide +kernel
theorem l149 : ln 149 = 32 := by decide +kernel
theorem k150 : kd 150 = 21 := by decide +kernel
theorem l150 : ln 150 = 24 := by decide +kernel
theorem k151 : kd 151 = 21 := by decide +kernel
theorem l151 : ln 151 = 6 := by decide +kernel
theorem k152 : kd 152 = 7 := by decide +kernel
theorem k153 : kd 153 = 21 := by decide +kernel
theorem l153 : ln 153 = 32 := by decide +kernel
theorem k154 : kd 154 = 21 := by decide +kernel
theorem l154 : ln 154 = 32 := by decide +kernel
theorem k155 : kd 155 = 21 := by decide +kernel
theorem l155 : ln 155 = 24 := by decide +kernel
theorem k156 : kd 156 = 21 := by decide +kernel
theorem l156 : ln 156 = 6 := by decide +kernel
theorem k157 : kd 157 = 2 := by decide +kernel
theorem k158 : kd 158 = 5 := by decide +kernel
theorem k159 : kd 159 = 8 := by decide +kernel
theorem k160 : kd 160 = 21 := by decide +kernel
theorem l160 : ln 160 = 64 := by decide +kernel
theorem k161 : kd 161 = 7 := by decide +kernel
theorem k162 : kd 162 = 21 := by decide +kernel
theorem l162 : ln 162 = 32 := by decide +kernel
theorem k163 : kd 163 = 21 := by decide +kernel
theorem l163 : ln 163 = 32 := by decide +kernel
theorem k164 : kd 164 = 21 := by decide +kernel
theorem l164 : ln 164 = 24 := by decide +kernel
theorem k165 : kd 165 = 21 := by decide +kernel
theorem l165 : ln 165 = 6 := by decide +kernel
theorem k166 : kd 166 = 21 := by decide +kernel
theorem l166 : ln 166 = 80 := by decide +kernel
theorem k167 : kd 167 = 21 := by decide +kernel
theorem l167 : ln 167 = 92 := by decide +kernel
theorem k168 : kd 168 = 21 := by decide +kernel
theorem l168 : ln 168 = 2944 := by decide +kernel
theorem k169 : kd 169 = 21 := by decide +kernel
theorem l169 : ln 169 = 100 := by decide +kernel
theorem k170 : kd 170 = 4 := by decide +kernel
theorem k171 : kd 171 = 21 := by decide +kernel
theorem l171 : ln 171 = 97 := by decide +kernel
theorem k172 : kd 172 = 21 := by decide +kernel
theorem l172 : ln 172 = 6 := by decide +kernel
theorem k173 : kd 173 = 7 := by decide +kernel
theorem k174 : kd 174 = 21 := by decide +kernel
theorem l174 : ln 174 = 32 := by decide +kernel
theorem k175 : kd 175 = 21 := by decide +kernel
theorem l175 : ln 175 = 32 := by decide +kernel
theorem k176 : kd 176 = 21 := by decide +kernel
theorem l176 : ln 176 = 24 := by decide +kernel
theorem k177 : kd 177 = 21 := by decide +kernel
theorem l177 : ln 177 = 6 := by decide +kernel
theorem k178 : kd 178 = 7 := by decide +kernel
theorem k179 : kd 179 = 21 := by decide +kernel
theorem l179 : ln 179 = 32 := by decide +kernel
theorem k180 : kd 180 = 21 := by decide +kernel
theorem l180 : ln 180 = 32 := by decide +kernel
theorem k181 : kd 181 = 21 := by decide +kernel
theorem l181 : ln 181 = 24 := by decide +kernel
theorem k182 : kd 182 = 21 := by decide +kernel
theorem l182 : ln 182 = 6 := by decide +kernel
theorem k183 : kd 183 = 7 := by decide +kernel
theorem k184 : kd 184 = 21 := by decide +kernel
theorem l184 : ln 184 = 32 := by decide +kernel
theorem k185 : kd 185 = 21 := by decide +kernel
theorem l185 : ln 185 = 32 := by decide +kernel
theorem k186 : kd 186 = 21 := by decide +kernel
theorem l186 : ln 186 = 24 := by decide +kernel
theorem k187 : kd 187 = 21 := by decide +kernel
theorem l187 : ln 187 = 6 := by decide +kernel
theorem k188 : kd 188 = 7 := by decide +kernel
theorem k189 : kd 189 = 21 := by decide +kernel
theorem l189 : ln 189 = 32 := by decide +kernel
theorem k190 : kd 190 = 21 := by decide +kernel
theorem l190 : ln 190 = 32 := by decide +kernel
theorem k191 : kd 191 = 21 := by decide +kernel
theorem l191 : ln 191 = 24 := by decide +kernel
theorem k192 : kd 192 = 21 := by decide +kernel
theorem l192 : ln 192 = 6 := by decide +kernel
theorem k193 : kd 193 = 7 := by decide +kernel
theorem k194 : kd 194 = 21 := by decide +kernel
theorem l194 : ln 194 = 32 := by decide +kernel
theorem k195 : kd 195 = 21 := by decide +kernel
theorem l195 : ln 195 = 32 := by decide +kernel
theorem k196 : kd 196 = 21 := by decide +kernel
theorem l196 : ln 196 = 24 := by decide +kernel
theorem k197 : kd 197 = 21 := by decide +kernel
theorem l197 : ln 197 = 6 := by decide +kernel
theorem k198 : kd 198 = 7 := by decide +kernel
theorem k199 : kd 199 = 21 := by decide +kernel
theorem l199 : ln 199 = 32 := by decide +kernel
theorem k200 : kd 200 = 21 := by decide +kernel
theorem l200 : ln 200 = 32 := by decide +kernel
theorem k201 : kd 201 = 21 := by decide +kernel
theorem l201 : ln 201 = 24 := by decide +kernel
theorem k202 : kd 202 = 21 := by decide +kernel
theorem l202 : ln 202 = 6 := by decide +kernel
theorem k203 : kd 203 = 7 := by decide +kernel
theorem k204 : kd 204 = 21 := by decide +kernel
theorem l204 : ln 204 = 32 := by decide +kernel
theorem k205 : kd 205 = 21 := by decide +kernel
theorem l205 : ln 205 = 32 := by decide +kernel
theorem k206 : kd 206 = 21 := by decide +kernel
theorem l206 : ln 206 = 24 := by decide +kernel
theorem k207 : kd 207 = 21 := by decide +kernel
theorem l207 : ln 207 = 6 := by decide +kernel
theorem k208 : kd 208 = 7 := by decide +kernel
theorem k209 : kd 209 = 21 := by decide +kernel
theorem l209 : ln 209 = 32 := by decide +kernel
theorem k210 : kd 210 = 21 := by decide +kernel
theorem l210 : ln 210 = 32 := by decide +kernel
theorem k211 : kd 211 = 21 := by decide +kernel
theorem l211 : ln 211 = 24 := by decide +kernel
theorem k212 : kd 212 = 21 := by decide +kernel
theorem l212 : ln 212 = 6 := by decide +kernel
theorem k213 : kd 213 = 7 := by decide +kernel
theorem k214 : kd 214 = 21 := by decide +kernel
theorem l214 : ln 214 = 32 := by decide +kernel
theorem k215 : kd 215 = 21 := by decide +kernel
theorem l215 : ln 215 = 32 := by decide +kernel
theorem k216 : kd 216 = 21 := by decide +kernel
theorem l216 : ln 216 = 24 := by decide +kernel
theorem k217 : kd 217 = 21 := by decide +kernel
theorem l217 : ln 217 = 6 := by decide +kernel
theorem k218 : kd 218 = 12 := by decide +kernel
theorem k219 : kd 219 = 21 := by decide +kernel
theorem l219 : ln 219 = 1600 := by decide +kernel
theorem k220 : kd 220 = 21 := by decide +kernel
theorem l220 : ln 220 = 6 := by decide +kernel
theorem k221 : kd 221 = 20 := by decide +kernel
theorem l221 : ln 221 = 4 := by decide +kernel
theorem k222 : kd 222 = 20 := by decide +kernel
theorem l222 : ln 222 = 6 := by decide +kernel
theorem k223 : kd 223 = 20 := by decide +kernel
theorem l223 : ln 223 = 2 := by decide +kernel
theorem k224 : kd 224 = 20 := by decide +kernel
theorem l224 : ln 224 = 4 := by decide +kernel
theorem k225 : kd 225 = 20 := by decide +kernel
theorem l225 : ln 225 = 6 := by decide +kernel
theorem k226 : kd 226 = 20 := by decide +kernel
theorem l226 : ln 226 = 2 := by decide +kernel
theorem k227 : kd 227 = 20 := by decide +kernel
theorem l227 : ln 227 = 4 := by decide +kernel
theorem k228 : kd 228 = 20 := by decide +kernel
theorem l228 : ln 228 = 2 := by decide +kernel
theorem k229 : kd 229 = 20 := by decide +kernel
theorem l229 : ln 229 = 4 := by decide +kernel
theorem k230 : kd 230 = 20 := by decide +kernel
theorem l230 : ln 230 = 4 := by decide +kernel
theorem k231 : kd 231 = 20 := by decide +kernel
theorem l231 : ln 231 = 4 := by decide +kernel
theorem k232 : kd 232 = 20 := by decide +kernel
theorem l232 : ln 232 = 5 := by decide +kernel
theorem k233 : kd 233 = 20 := by decide +kernel
theorem l233 : ln 233 = 4 := by decide +kernel
theorem k234 : kd 234 = 20 := by decide +kernel
theorem l234 : ln 234 = 7 := by decide +kernel
theorem k235 : kd 235 = 20 := by decide +kernel
theorem l235 : ln 235 = 4 := by decide +kernel
theorem k236 : kd 236 = 20 := by decide +kernel
theorem l236 : ln 236 = 5 := by decide +kernel
theorem k237 : kd 237 = 20 := by decide +kernel
theorem l237 : ln 237 = 3 := by decide +kernel
theorem k238 : kd 238 = 20 := by decide +kernel
theorem l238 : ln 238 = 3 := by decide +kernel
theorem k239 : kd 239 = 20 := by decide +kernel
theorem l239 : ln 239 = 3 := by decide +kernel
theorem k240 : kd 240 = 20 := by decide +kernel
theorem l240 : ln 240 = 5 := by decide +kernel
theorem k241 : kd 241 = 20 := by decide +kernel
theorem l241 : ln 241 = 5 := by decide +kernel
theorem k242 : kd 242 = 20 := by decide +kernel
theorem l242 : ln 242 = 4 := by decide +kernel
theorem k243 : kd 243 = 20 := by decide +kernel
theorem l243 : ln 243 = 6 := by decide +kernel
theorem k244 : kd 244 = 20 := by decide +kernel
theorem l244 : ln 244 = 2 := by decide +kernel
theorem k245 : kd 245 = 20 := by decide +kernel
theorem l245 : ln 245 = 3 := by decide +kernel
theorem k246 : kd 246 = 20 := by decide +kernel
theorem l246 : ln 246 = 3 := by decide +kernel
theorem k247 : kd 247 = 20 := by decide +kernel
theorem l247 : ln 247 = 3 := by decide +kernel
theorem k248 : kd 248 = 20 := by decide +kernel
theorem l248 : ln 248 = 3 := by decide +kernel
theorem k249 : kd 249 = 20 := by decide +kernel
theorem l249 : ln 249 = 3 := by decide +kernel
theorem k250 : kd 250 = 21 := by decide +kernel
theorem l250 : ln 250 = 10 := by decide +kernel
theorem k251 : kd 251 = 22 := by decide +kernel
theorem l251 : ln 251 = 64 := by decide +kernel
theorem k252 : kd 252 = 21 := by decide +kernel
theorem l252 : ln 252 = 64 := by decide +kernel
theorem k253 : kd 253 = 21 := by decide +kernel
theorem l253 : ln 253 = 24 := by decide +kernel
theorem k254 : kd 254 = 21 := by decide +kernel
theorem l254 : ln 254 = 96 := by decide +kernel
theorem k255 : kd 255 = 21 := by decide +kernel
theorem l255 : ln 255 = 6 := by decide +kernel
theorem k256 : kd 256 = 21 := by decide +kernel
theorem l256 : ln 256 = 16 := by decide +kernel
theorem k257 : kd 257 = 21 := by decide +kernel
theorem l257 : ln 257 = 16 := by decide +kernel
theorem k258 : kd 258 = 21 := by decide +kernel
theorem l258 : ln 258 = 3200 := by decide +kernel
theorem k259 : kd 259 = 21 := by decide +kernel
theorem l259 : ln 259 = 95 := by decide +kernel
theorem k260 : kd 260 = 21 := by decide +kernel
theorem l260 : ln 260 = 95 := by decide +kernel
theorem k261 : kd 261 = 21 := by decide +kernel
theorem l261 : ln 261 = 4 := by decide +kernel
theorem k262 : kd 262 = 21 := by decide +kernel
theorem l262 : ln 262 = 855 := by decide +kernel
theorem k263 : kd 263 = 21 := by decide +kernel
theorem l263 : ln 263 = 1900 := by decide +kernel
theorem k264 : kd 264 = 21 := by decide +kernel
theorem l264 : ln 264 = 80 := by decide +kernel
theorem k265 : kd 265 = 21 := by decide +kernel
theorem l265 : ln 265 = 3200 := by decide +kernel
theorem k266 : kd 266 = 20 := by decide +kernel
theorem l266 : ln 266 = 5 := by decide +kernel
theorem k267 : kd 267 = 20 := by decide +kernel
theorem l267 : ln 267 = 4 := by decide +kernel
theorem k268 : kd 268 = 20 := by decide +kernel
theorem l268 : ln 268 = 5 := by decide +kernel
theorem k269 : kd 269 = 20 := by decide +kernel
theorem l269 : ln 269 = 5 := by decide +kernel
theorem k270 : kd 270 = 20 := by decide +kernel
theorem l270 : ln 270 = 4 := by decide +kernel
theorem k271 : kd 271 = 20 := by decide +kernel
theorem l271 : ln 271 = 5 := by decide +kernel
theorem k272 : kd 272 = 20 := by decide +kernel
theorem l272 : ln 272 = 3 := by decide +kernel
theorem k273 : kd 273 = 20 := by decide +kernel
theorem l273 : ln 273 = 3 := by decide +kernel
theorem k274 : kd 274 = 20 := by decide +kernel
theorem l274 : ln 274 = 2 := by decide +kernel
theorem k275 : kd 275 = 20 := by decide +kernel
theorem l275 : ln 275 = 3 := by decide +kernel
theorem k276 : kd 276 = 20 := by decide +kernel
theorem l276 : ln 276 = 3 := by decide +kernel
theorem k277 : kd 277 = 20 := by decide +kernel
theorem l277 : ln 277 = 3 := by decide +kernel
theorem k278 : kd 278 = 20 := by decide +kernel
theorem l278 : ln 278 = 5 := by decide +kernel
theorem k279 : kd 279 = 20 := by decide +kernel
theorem l279 : ln 279 = 3 := by decide +kernel
theorem k280 : kd 280 = 20 := by decide +kernel
theorem l280 : ln 280 = 3 := by decide +kernel
theorem k281 : kd 281 = 20 := by decide +kernel
theorem l281 : ln 281 = 3 := by decide +kernel
theorem k282 : kd 282 = 20 := by decide +kernel
theorem l282 : ln 282 = 5 := by decide +kernel
theorem k283 : kd 283 = 20 := by decide +kernel
theorem l283 : ln 283 = 5 := by decide +kernel
theorem k284 : kd 284 = 20 := by decide +kernel
theorem l284 : ln 284 = 4 := by decide +kernel
theorem k285 : kd 285 = 20 := by decide +kernel
theorem l285 : ln 285 = 4 := by decide +kernel
theorem k286 : kd 286 = 20 := by decide +kernel
theorem l286 : ln 286 = 6 := by decide +kernel
theorem k287 : kd 287 = 20 := by decide +kernel
theorem l287 : ln 287 = 4 := by decide +kernel
theorem k288 : kd 288 = 21 := by decide +kernel
theorem l288 : ln 288 = 1700 := by decide +kernel
theorem k289 : kd 289 = 21 := by decide +kernel
theorem l289 : ln 289 = 1700 := by decide +kernel
theorem k290 : kd 290 = 22 := by decide +kernel
theorem l290 : ln 290 = 1700 := by decide +kernel
theorem k291 : kd 291 = 21 := by decide +kernel
theorem l291 : ln 291 = 97 := by decide +kernel

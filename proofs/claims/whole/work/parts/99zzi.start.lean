/-! THE START: what the constructors leave is a memory -/
def dcV (v : Value) : Int := match v with
  | .int x => x.toInt
  | .long x => x.toInt
  | .ref r => ((r : Nat) : Int)
  | _ => 0
def dcA (c : AC) (i : Int) : Int := match c with
  | .inl (_, _, .inl f) => (f i.toNat).toInt
  | .inl (_, _, .inr (.inl f)) => (f i.toNat).toInt
  | .inr (_, vs) => dcV (vs.getD i.toNat .null)
  | _ => 0
def okVe (a c j : Nat) (v : Value) : Bool := match ft c j, v with
  | 0, .int _ => true
  | 1, .long _ => true
  | 2, .ref _ => true
  | r + 3, .ref b => b == a + r
  | _, _ => false
def okCe (c : AC) (a : Nat) : Bool := match c with
  | .inr (k, vs) => decide (kd a < 13) && (k == kd a && (vs.length == nf k && (List.range (nf k)).all (fun j => okVe a k j (vs.getD j .null))))
  | .inl (t, m, .inl _) => ((kd a == 20 && t == 0) || (kd a == 21 && t == 1)) && m == ln a
  | .inl (t, m, .inr (.inl _)) => (kd a == 22 && t == 2) && m == ln a
  | _ => false
theorem jI_back (x : Int32) : jI x.toInt = x := Int32.ofInt_toInt x
theorem jL_back (x : Int64) : jL x.toInt = x := Int64.ofInt_toInt x
theorem okVe_fg {g : Int → Int} {a c j : Nat} {v : Value} (h : okVe a c j v = true) (hg : g j = dcV v) : fg g a c j = v := by
  unfold okVe at h
  unfold fg
  rw [hg]
  generalize ft c j = q at h ⊢
  rcases q with _ | _ | _ | r
  · cases v with
    | int x => exact congrArg Value.int (jI_back x)
    | _ => exact absurd h Bool.false_ne_true
  · cases v with
    | long x => exact congrArg Value.long (jL_back x)
    | _ => exact absurd h Bool.false_ne_true
  · cases v with
    | ref x => exact congrArg Value.ref (Int.toNat_natCast x)
    | _ => exact absurd h Bool.false_ne_true
  · cases v with
    | ref x =>
      have e : x = a + r := by
        have h' : (x == a + r) = true := h
        exact beq_iff_eq.mp h'
      subst e
      rfl
    | _ => exact absurd h Bool.false_ne_true
theorem okCe_cel {c : AC} {a : Nat} (h : okCe c a = true) : ¬ kd a = 99 ∧ cel (dcA c) a = c := by
  rcases c with ⟨t, m, f | f | f⟩ | ⟨k, vs⟩
  · have h' : (((kd a == 20 && t == 0) || (kd a == 21 && t == 1)) && m == ln a) = true := h
    simp only [Bool.and_eq_true, Bool.or_eq_true, beq_iff_eq] at h'
    obtain ⟨h1, rfl⟩ := h'
    have ef : (fun j : Nat => jI (dcA (.inl (t, ln a, .inl f)) j)) = f := by
      funext j
      show jI ((f (Int.toNat (j : Int))).toInt) = f j
      rw [Int.toNat_natCast, jI_back]
    unfold cel
    rcases h1 with ⟨h1, rfl⟩ | ⟨h1, rfl⟩
    · rw [if_neg (by omega), if_pos h1, ef]
      exact ⟨by omega, rfl⟩
    · rw [if_neg (by omega), if_neg (by omega), if_pos h1, ef]
      exact ⟨by omega, rfl⟩
  · have h' : ((kd a == 22 && t == 2) && m == ln a) = true := h
    simp only [Bool.and_eq_true, beq_iff_eq] at h'
    obtain ⟨⟨h1, rfl⟩, rfl⟩ := h'
    have ef : (fun j : Nat => jL (dcA (.inl (2, ln a, .inr (.inl f))) j)) = f := by
      funext j
      show jL ((f (Int.toNat (j : Int))).toInt) = f j
      rw [Int.toNat_natCast, jL_back]
    unfold cel
    rw [if_neg (by omega), if_neg (by omega), if_neg (by omega), if_pos h1, ef]
    exact ⟨by omega, rfl⟩
  · exact absurd h Bool.false_ne_true
  · have h' : (decide (kd a < 13) && (k == kd a && (vs.length == nf k && (List.range (nf k)).all (fun j => okVe a k j (vs.getD j .null))))) = true := h
    simp only [Bool.and_eq_true, beq_iff_eq, decide_eq_true_eq, List.all_eq_true, List.mem_range] at h'
    obtain ⟨h1, rfl, h3, h4⟩ := h'
    unfold cel
    rw [if_pos h1]
    refine ⟨by omega, ?_⟩
    congr 2
    apply List.ext_getElem
    · simp [h3]
    · intro j j1 j2
      simp only [List.length_map, List.length_range] at j1
      rw [List.getElem_map, List.getElem_range]
      have e := h4 j j1
      rw [List.getD_eq_getElem?_getD, List.getElem?_eq_getElem j2] at e
      refine okVe_fg e ?_
      show dcV (vs.getD (Int.toNat (j : Int)) .null) = _
      rw [Int.toNat_natCast, List.getD_eq_getElem?_getD, List.getElem?_eq_getElem j2]
      rfl
/-- all cells at the start -/
def W0 (k : Nat) : AC := if k < 54 then mbA.getD (k - 8) junk else if k = 54 then rowA 9 173 9 else if k = 55 then .inr (3, [.ref 56, .int 0, .int 0]) else if k = 56 then rowA 20 57 20 else if k < 157 then (stateL (57 + 5 * ((k - 57) / 5))).getD ((k - 57) % 5) junk else if k < 173 then mbB.getD (k - 157) junk else if k < 218 then (stateL (173 + 5 * ((k - 173) / 5))).getD ((k - 173) % 5) junk else if k = 218 then mO mS0 else mLs.getD (k - 219) junk
set_option maxRecDepth 100000 in
theorem W0_ok : (List.range 284).all (fun j => j == 46 || (j == 48 || okCe (W0 (8 + j)) (8 + j))) = true := by decide +kernel
def M0 : Me := fun a => dcA (W0 a)
theorem kd_out {a : Nat} (h : a < 8 ∨ 292 ≤ a) : kd a = 99 := by
  rcases h with h | h
  · have : ∀ a, a < 8 → kd a = 99 := by decide +kernel
    exact this a h
  · unfold kd
    rw [List.getD_eq_getElem?_getD, List.getElem?_eq_none (by show kdL.length ≤ a; exact Nat.le_trans (by decide +kernel) h)]
    rfl
theorem hp_M0 {F : Nat → AC} (h : ∀ k, 8 ≤ k → k < 292 → F k = W0 k) : F = hp F M0 := by
  funext a
  unfold hp
  by_cases q : a < 8 ∨ 292 ≤ a
  · rw [if_pos (kd_out q)]
  · rw [h a (by omega) (by omega)]
    have ok := List.all_eq_true.mp W0_ok (a - 8) (List.mem_range.mpr (by omega))
    rw [show 8 + (a - 8) = a by omega] at ok
    simp only [Bool.or_eq_true, beq_iff_eq] at ok
    by_cases q1 : a = 54
    · subst q1
      rw [if_neg (by decide +kernel)]
      show rowA 9 173 9 = cel (M0 54) 54
      unfold cel
      rw [if_neg (by decide +kernel), if_neg (by decide +kernel), if_neg (by decide +kernel), if_neg (by decide +kernel)]
      rfl
    · by_cases q2 : a = 56
      · subst q2
        rw [if_neg (by decide +kernel)]
        show rowA 20 57 20 = cel (M0 56) 56
        unfold cel
        rw [if_neg (by decide +kernel), if_neg (by decide +kernel), if_neg (by decide +kernel), if_neg (by decide +kernel)]
        rfl
      · have ok' : okCe (W0 a) a = true := by
          rcases ok with h | h | h
          · omega
          · omega
          · exact h
        obtain ⟨o1, o2⟩ := okCe_cel ok'
        rw [if_neg o1]
        exact o2.symm
theorem getD_Tr {w : Nat → AC} {b k : Nat} {l : List AC} (h : Tr w b l) (h0 : b ≤ k) (h1 : k < b + l.length) : w k = l.getD (k - b) junk := by
  have := h (k - b) (by omega)
  rw [show b + (k - b) = k by omega] at this
  exact this
set_option maxRecDepth 100000 in
/-- the heap after both constructors -/
theorem F_W0 {f w : Nat → AC} (h : mbF f w) : ∀ k, 8 ≤ k → k < 292 → putL (up w 218 (mO mS0)) 219 mLs k = W0 k := by
  obtain ⟨h1, h2, h3, h4, h5, h6, h7, h8, h9⟩ := h
  intro k k0 k1
  have lA : mbA.length = 46 := by decide +kernel
  have lB : mbB.length = 16 := by decide +kernel
  have lL : mLs.length = 73 := by decide +kernel
  unfold W0
  by_cases q : 219 ≤ k
  · rw [if_neg (by omega), if_neg (by omega), if_neg (by omega), if_neg (by omega), if_neg (by omega), if_neg (by omega), if_neg (by omega), if_neg (by omega)]
    unfold putL
    rw [if_pos (by rw [lL]; omega)]
  · rw [putL_lo _ _ (by omega)]
    by_cases q1 : k = 218
    · subst q1
      rw [up_self, if_neg (by omega), if_neg (by omega), if_neg (by omega), if_neg (by omega), if_neg (by omega), if_neg (by omega), if_neg (by omega), if_pos rfl]
    · rw [up_ne _ _ q1]
      by_cases a1 : k < 54
      · rw [if_pos a1]
        exact getD_Tr h2 k0 (by rw [lA]; omega)
      · rw [if_neg a1]
        by_cases a2 : k = 54
        · subst a2; rw [if_pos rfl]; exact h3
        · rw [if_neg a2]
          by_cases a3 : k = 55
          · subst a3; rw [if_pos rfl]; exact h4
          · rw [if_neg a3]
            by_cases a4 : k = 56
            · subst a4; rw [if_pos rfl]; exact h5
            · rw [if_neg a4]
              by_cases a5 : k < 157
              · rw [if_pos a5]
                have := getD_Tr (h6 ((k - 57) / 5) (by omega)) (k := k) (by omega) (by show k < _ + 5; omega)
                rw [this]
                congr 1
                omega
              · rw [if_neg a5]
                by_cases a6 : k < 173
                · rw [if_pos a6]
                  exact getD_Tr h7 (by omega) (by rw [lB]; omega)
                · rw [if_neg a6, if_pos (by omega)]
                  have := getD_Tr (h8 ((k - 173) / 5) (by omega)) (k := k) (by omega) (by show k < _ + 5; omega)
                  rw [this]
                  congr 1
                  omega
theorem F_old {f w : Nat → AC} (h : mbF f w) {k : Nat} (hk : k < 8) : putL (up w 218 (mO mS0)) 219 mLs k = f k := by
  rw [putL_lo _ _ (by omega), up_ne _ _ (by omega)]
  exact h.1 k hk

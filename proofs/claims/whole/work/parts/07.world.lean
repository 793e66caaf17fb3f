/-! THE ABSTRACT MACHINE IS SOUND, first: worlds. 'oq' is what Preconditions.SIOOBE_FORMATTER holds, 'old' the addresses of the old cells, N0 the heap's size at the law's entry: cell k is at N0 + (k - 8). -/
def cvV (oq : Option Nat) (ad : Nat → Nat) : Value → Value
  | .ref a => .ref (ad a)
  | .retAddr _ => va_rf oq
  | v => v
def cvA (ad : Nat → Nat) : ((Nat → Int32) ⊕ (Nat → Int64) ⊕ (Nat → UInt32) ⊕ (Nat → UInt64) ⊕ (Nat → Option Nat)) → ((Nat → Int32) ⊕ (Nat → Int64) ⊕ (Nat → UInt32) ⊕ (Nat → UInt64) ⊕ (Nat → Option Nat))
  | .inr (.inr (.inr (.inr f))) => .inr (.inr (.inr (.inr (fun i => (f i).map ad))))
  | x => x
def cvE (oq : Option Nat) (ad : Nat → Nat) (cy : Nat → ClassId) : AC → va_E
  | .inl (t, n, x) => .inl (cy t, n, cvA ad x)
  | .inr (c, fs) => .inr (c, fs.map (cvV oq ad))
def cvL (oq : Option Nat) (ad : Nat → Nat) (lo : Lo) : List (Nat × Value) := lo.map fun q => (q.1, cvV oq ad q.2)
def adr (old : Nat → Nat) (N0 : Nat) : Nat → Nat := fun k => if k < 8 then old k else N0 + (k - 8)
def wsl (oq : Option Nat) (ad : Nat → Nat) (cy : Nat → ClassId) (h : Hp) : va_W := (List.range (h.1 - 8)).map fun k => (ad (k + 8), cvE oq ad cy (h.2.2 (k + 8)))
theorem cv_cat (oq : Option Nat) (ad : Nat → Nat) (v : Value) : (cvV oq ad v).category = v.category := by
  cases v <;> first | rfl | (cases oq <;> rfl)
theorem lk_mem {lo : Lo} {i : Nat} {v : Value} (h : lk lo i = some v) : (i, v) ∈ lo := by
  induction lo with
  | nil => cases h
  | cons q r ih =>
    obtain ⟨j, w⟩ := q
    unfold lk at h
    by_cases hj : j = i
    · rw [if_pos hj] at h
      cases h
      subst hj
      exact List.mem_cons_self
    · rw [if_neg hj] at h
      exact List.mem_cons_of_mem _ (ih h)
theorem lk_at {oq : Option Nat} {ad : Nat → Nat} {ls : Array Slot} {nL : Nat} {lo : Lo} {i : Nat} {v : Value} (h : lv_has ls nL (cvL oq ad lo)) (hv : lk lo i = some v) : ls[i]? = some (.val (cvV oq ad v)) :=
  h.2.2 (i, cvV oq ad v) (List.mem_map.mpr ⟨(i, v), lk_mem hv, rfl⟩)
theorem cvL_rm1 (oq : Option Nat) (ad : Nat → Nat) (i : Nat) (lo : Lo) : (cvL oq ad lo).filter (fun q => !(q.1 == i) && !(q.1 + 1 == i && q.2.category == 2)) = cvL oq ad (rm1 i lo) := by
  unfold cvL rm1
  rw [List.filter_map]
  congr 1
  apply List.filter_congr
  intro q _
  simp [cv_cat]
theorem cvL_rm2 (oq : Option Nat) (ad : Nat → Nat) (i : Nat) (lo : Lo) : (cvL oq ad lo).filter (fun q => !(q.1 == i) && (!(q.1 == i + 1) && !(q.1 + 1 == i && q.2.category == 2))) = cvL oq ad (rm2 i lo) := by
  unfold cvL rm2
  rw [List.filter_map]
  congr 1
  apply List.filter_congr
  intro q _
  simp [cv_cat]
theorem wsl_get {oq : Option Nat} {ad : Nat → Nat} {cy : Nat → ClassId} {h : Hp} {a : Nat} (h8 : 8 ≤ a) (hn : a < h.1) : (wsl oq ad cy h)[a - 8]? = some (ad a, cvE oq ad cy (h.2.2 a)) := by
  unfold wsl
  rw [List.getElem?_map, List.getElem?_range (by omega)]
  simp only [Option.map_some, Nat.sub_add_cancel h8]
theorem wsl_lt {oq : Option Nat} {ad : Nat → Nat} {cy : Nat → ClassId} {h : Hp} {k : Nat} {q : Nat × va_E} (hk : (wsl oq ad cy h)[k]? = some q) : k + 8 < h.1 ∧ q = (ad (k + 8), cvE oq ad cy (h.2.2 (k + 8))) := by
  have hl := (List.getElem?_eq_some_iff.mp hk).1
  have hl2 : k < h.1 - 8 := by simpa [wsl] using hl
  have h2 := wsl_get (oq := oq) (ad := ad) (cy := cy) (h := h) (a := k + 8) (by omega) (by omega)
  rw [Nat.add_sub_cancel] at h2
  exact ⟨by omega, Option.some.inj (hk.symm.trans h2)⟩
theorem wsl_set {oq : Option Nat} {ad : Nat → Nat} {cy : Nat → ClassId} {h : Hp} {a : Nat} (h8 : 8 ≤ a) (hn : a < h.1) (c : AC) : (wsl oq ad cy h).set (a - 8) (ad a, cvE oq ad cy c) = wsl oq ad cy (h.1, h.2.1, up h.2.2 a c) := by
  apply List.ext_getElem?
  intro j
  by_cases hj : j = a - 8
  · subst hj
    rw [List.getElem?_set_self (by simp [wsl]; omega), wsl_get (h := (h.1, h.2.1, up h.2.2 a c)) h8 hn]
    simp [up, va_up]
  · rw [List.getElem?_set_ne (Ne.symm hj)]
    unfold wsl
    rw [List.getElem?_map, List.getElem?_map]
    cases hr : (List.range (h.1 - 8))[j]? with
    | none => rfl
    | some k =>
      obtain ⟨h1, h2⟩ := List.getElem?_eq_some_iff.mp hr
      rw [List.getElem_range] at h2
      subst h2
      simp [up, va_up, show ¬ j + 8 = a by omega]
theorem wsl_push {oq : Option Nat} {ad : Nat → Nat} {cy : Nat → ClassId} {h : Hp} (h8 : 8 ≤ h.1) (z : Nat) (c : AC) : wsl oq ad cy h ++ [(ad h.1, cvE oq ad cy c)] = wsl oq ad cy (h.1 + 1, z, up h.2.2 h.1 c) := by
  unfold wsl
  rw [show h.1 + 1 - 8 = (h.1 - 8) + 1 by omega, List.range_succ, List.map_append]
  congr 1
  · apply List.map_congr_left
    intro k hk
    have := List.mem_range.mp hk
    simp [up, va_up, show ¬ k + 8 = h.1 by omega]
  · simp [up, va_up, Nat.sub_add_cancel h8]
theorem wsl_D (oq : Option Nat) (old : Nat → Nat) (N0 : Nat) (cy : Nat → ClassId) (h : Hp) : va_D (fun q => N0 ≤ q) (wsl oq (adr old N0) cy h) := by
  refine ⟨fun i j p q hi hj e => ?_, fun k q hk => ?_⟩
  · obtain ⟨h1, rfl⟩ := wsl_lt hi
    obtain ⟨h2, rfl⟩ := wsl_lt hj
    simp only [adr] at e
    rw [if_neg (by omega), if_neg (by omega)] at e
    omega
  · obtain ⟨h1, rfl⟩ := wsl_lt hk
    simp only [adr]
    rw [if_neg (by omega)]
    omega
/-- no cell at all -/
def junk : AC := .inl (99, 0, .inl (fun _ => 0))
/-- a cell of ours: an object of one of the 13 classes, an array of one of the 4 kinds -/
def okC : AC → Bool
  | .inl (t, _, .inl _) => decide (t < 2)
  | .inl (t, _, .inr (.inl _)) => decide (t = 2)
  | .inl (t, _, .inr (.inr (.inr (.inr _)))) => decide (t = 3)
  | .inr (c, _) => decide (c < 13)
  | _ => false
def mof : Nat → Int32 := fun j => [4, 8, 6, 16, 6].getD j 0
/-- the old cells as they are; nothing beyond the last cell -/
def wf (L : Nat) (xs : Nat → Int32) (h : Hp) : Prop := 8 ≤ h.1 ∧ h.2.2 0 = .inl (5, L, .inl xs) ∧ h.2.2 1 = .inl (5, 5, .inl mof) ∧ (∀ i, i < 3 → h.2.2 (2 + i) = .inr (13, [.ref (5 + i), .int 0])) ∧ (∀ i, i < 3 → h.2.2 (5 + i) = .inl (4, stL.getD i 0, .inl (fun j => (stB.getD i []).getD j 0))) ∧ (∀ a, h.1 ≤ a → h.2.2 a = junk) ∧ ∀ a, 8 ≤ a → a < h.1 → okC (h.2.2 a) = true
abbrev tysL (cy : Nat → ClassId) : List (ClassId × FieldType) := [(cy 0, .char), (cy 1, .int), (cy 2, .long), (cy 3, .object RX7)]
def Wd (G : va_G) (cy : Nat → ClassId) (oq : Option Nat) (old : Nat → Nat) (N0 L : Nat) (xs : Nat → Int32) (h : Hp) (H : Heap) : Prop :=
  va_P G vwCl (wsl oq (adr old N0) cy h) H ∧ H.size = N0 + (h.1 - 8) ∧ wf L xs h
theorem wf_set {L : Nat} {xs : Nat → Int32} {h : Hp} (w : wf L xs h) {a : Nat} (h8 : 8 ≤ a) (hn : a < h.1) {c : AC} (hc : okC c = true) : wf L xs (h.1, h.2.1, up h.2.2 a c) := by
  obtain ⟨w1, w2, w3, w4, w5, w6, w7⟩ := w
  refine ⟨w1, ?_, ?_, fun i hi => ?_, fun i hi => ?_, fun b hb => ?_, fun b hb hb2 => ?_⟩
  · show up h.2.2 a c 0 = _
    rw [up, va_up_ne _ _ (by omega)]; exact w2
  · show up h.2.2 a c 1 = _
    rw [up, va_up_ne _ _ (by omega)]; exact w3
  · show up h.2.2 a c (2 + i) = _
    rw [up, va_up_ne _ _ (by omega)]; exact w4 i hi
  · show up h.2.2 a c (5 + i) = _
    rw [up, va_up_ne _ _ (by omega)]; exact w5 i hi
  · show up h.2.2 a c b = _
    have hb : h.1 ≤ b := hb
    rw [up, va_up_ne _ _ (by omega)]; exact w6 b hb
  · show okC (up h.2.2 a c b) = true
    by_cases e : b = a
    · rw [e, up, va_up_self]; exact hc
    · rw [up, va_up_ne _ _ e]; exact w7 b hb hb2
theorem wf_push {L : Nat} {xs : Nat → Int32} {h : Hp} (w : wf L xs h) (z : Nat) {c : AC} (hc : okC c = true) : wf L xs (h.1 + 1, z, up h.2.2 h.1 c) := by
  obtain ⟨w1, w2, w3, w4, w5, w6, w7⟩ := w
  refine ⟨Nat.le_succ_of_le w1, ?_, ?_, fun i hi => ?_, fun i hi => ?_, fun b hb => ?_, fun b hb hb2 => ?_⟩
  · show up h.2.2 h.1 c 0 = _
    rw [up, va_up_ne _ _ (by omega)]; exact w2
  · show up h.2.2 h.1 c 1 = _
    rw [up, va_up_ne _ _ (by omega)]; exact w3
  · show up h.2.2 h.1 c (2 + i) = _
    rw [up, va_up_ne _ _ (by omega)]; exact w4 i hi
  · show up h.2.2 h.1 c (5 + i) = _
    rw [up, va_up_ne _ _ (by omega)]; exact w5 i hi
  · have hb : h.1 + 1 ≤ b := hb
    show up h.2.2 h.1 c b = _
    rw [up, va_up_ne _ _ (by omega)]; exact w6 b (by omega)
  · show okC (up h.2.2 h.1 c b) = true
    have hb2 : b < h.1 + 1 := hb2
    by_cases e : b = h.1
    · rw [e, up, va_up_self]; exact hc
    · rw [up, va_up_ne _ _ e]; exact w7 b hb (by omega)
/-- a cell that holds an own object, or an own array, is one of ours -/
theorem wf_obj {L : Nat} {xs : Nat → Int32} {h : Hp} (w : wf L xs h) {a ci : Nat} {fs : List Value} (e : h.2.2 a = .inr (ci, fs)) (hc : ci < 13) : 8 ≤ a ∧ a < h.1 := by
  obtain ⟨w1, w2, w3, w4, w5, w6, w7⟩ := w
  refine ⟨?_, ?_⟩
  · rcases Nat.lt_or_ge a 8 with q | q
    · exfalso
      have : a = 0 ∨ a = 1 ∨ (∃ i, i < 3 ∧ a = 2 + i) ∨ (∃ i, i < 3 ∧ a = 5 + i) := by
        by_cases h1 : a < 2
        · omega
        · by_cases h2 : a < 5
          · exact Or.inr (Or.inr (Or.inl ⟨a - 2, by omega, by omega⟩))
          · exact Or.inr (Or.inr (Or.inr ⟨a - 5, by omega, by omega⟩))
      rcases this with rfl | rfl | ⟨i, hi, rfl⟩ | ⟨i, hi, rfl⟩
      · rw [w2] at e; cases e
      · rw [w3] at e; cases e
      · rw [w4 i hi] at e; cases e; omega
      · rw [w5 i hi] at e; cases e
    · exact q
  · rcases Nat.lt_or_ge a h.1 with q | q
    · exact q
    · rw [w6 a q] at e; cases e
theorem wf_arr {L : Nat} {xs : Nat → Int32} {h : Hp} (w : wf L xs h) {a t : Nat} {x : vp_A} (e : h.2.2 a = .inl (t, x)) (ht : t < 4) : 8 ≤ a ∧ a < h.1 := by
  obtain ⟨w1, w2, w3, w4, w5, w6, w7⟩ := w
  refine ⟨?_, ?_⟩
  · rcases Nat.lt_or_ge a 8 with q | q
    · exfalso
      have : a = 0 ∨ a = 1 ∨ (∃ i, i < 3 ∧ a = 2 + i) ∨ (∃ i, i < 3 ∧ a = 5 + i) := by
        by_cases h1 : a < 2
        · omega
        · by_cases h2 : a < 5
          · exact Or.inr (Or.inr (Or.inl ⟨a - 2, by omega, by omega⟩))
          · exact Or.inr (Or.inr (Or.inr ⟨a - 5, by omega, by omega⟩))
      rcases this with rfl | rfl | ⟨i, hi, rfl⟩ | ⟨i, hi, rfl⟩
      · rw [w2] at e; cases e; omega
      · rw [w3] at e; cases e; omega
      · rw [w4 i hi] at e; cases e
      · rw [w5 i hi] at e; cases e; omega
    · exact q
  · rcases Nat.lt_or_ge a h.1 with q | q
    · exact q
    · rw [w6 a q] at e; cases e; omega
/-- an old array: the script, MOST_OF, a String's bytes -/
theorem wf_old {L : Nat} {xs : Nat → Int32} {h : Hp} (w : wf L xs h) {a t n : Nat} {f : Nat → Int32} (e : h.2.2 a = .inl (t, n, .inl f)) (ht : t = 4 ∨ t = 5) : (t = 5 ∧ a = 0 ∧ n = L ∧ f = xs) ∨ (t = 5 ∧ a = 1 ∧ n = 5 ∧ f = mof) ∨ ∃ i, i < 3 ∧ t = 4 ∧ a = 5 + i ∧ n = stL.getD i 0 ∧ f = fun j => (stB.getD i []).getD j 0 := by
  obtain ⟨w1, w2, w3, w4, w5, w6, w7⟩ := w
  rcases Nat.lt_or_ge a h.1 with q | q
  · rcases Nat.lt_or_ge a 8 with q8 | q8
    · have : a = 0 ∨ a = 1 ∨ (∃ i, i < 3 ∧ a = 2 + i) ∨ (∃ i, i < 3 ∧ a = 5 + i) := by
        by_cases h1 : a < 2
        · omega
        · by_cases h2 : a < 5
          · exact Or.inr (Or.inr (Or.inl ⟨a - 2, by omega, by omega⟩))
          · exact Or.inr (Or.inr (Or.inr ⟨a - 5, by omega, by omega⟩))
      rcases this with rfl | rfl | ⟨i, hi, rfl⟩ | ⟨i, hi, rfl⟩
      · rw [w2] at e; cases e; exact Or.inl ⟨rfl, rfl, rfl, rfl⟩
      · rw [w3] at e; cases e; exact Or.inr (Or.inl ⟨rfl, rfl, rfl, rfl⟩)
      · rw [w4 i hi] at e; cases e
      · rw [w5 i hi] at e; cases e; exact Or.inr (Or.inr ⟨i, hi, rfl, rfl, rfl, rfl⟩)
    · have := w7 a q8 q; rw [e] at this; simp only [okC, decide_eq_true_eq] at this; omega
  · rw [w6 a q] at e; cases e; omega
theorem Wd_set {G : va_G} {cy : Nat → ClassId} {oq : Option Nat} {old : Nat → Nat} {N0 L : Nat} {xs : Nat → Int32} {h : Hp} {H H1 : Heap} (w : Wd G cy oq old N0 L xs h H) {a : Nat} (h8 : 8 ≤ a) (hn : a < h.1) {c : AC} (hc : okC c = true) (he : va_at G vwCl (adr old N0 a, cvE oq (adr old N0) cy c) H1) (z : H1.size = H.size) (oqq : ∀ q : Nat, q ≠ adr old N0 a → H1[q]? = H[q]?) : Wd G cy oq old N0 L xs (h.1, h.2.1, up h.2.2 a c) H1 := by
  obtain ⟨hP, hz, hw⟩ := w
  refine ⟨?_, by rw [z]; exact hz, wf_set hw h8 hn hc⟩
  rw [← wsl_set h8 hn]
  exact hP.set (wsl_D oq old N0 cy h) (wsl_get h8 hn) he oqq
theorem Wd_push {G : va_G} {cy : Nat → ClassId} {oq : Option Nat} {old : Nat → Nat} {N0 L : Nat} {xs : Nat → Int32} {h : Hp} {H H1 : Heap} (w : Wd G cy oq old N0 L xs h H) (y : Nat) {c : AC} (hc : okC c = true) (he : va_at G vwCl (H.size, cvE oq (adr old N0) cy c) H1) (z : H1.size = H.size + 1) (oqq : ∀ q : Nat, q < H.size → H1[q]? = H[q]?) : adr old N0 h.1 = H.size ∧ Wd G cy oq old N0 L xs (h.1 + 1, y, up h.2.2 h.1 c) H1 := by
  obtain ⟨hP, hz, hw⟩ := w
  have h8 : 8 ≤ h.1 := hw.1
  have e : adr old N0 h.1 = H.size := by rw [hz]; simp only [adr]; rw [if_neg (by omega)]
  refine ⟨e, ?_, ?_, wf_push hw y hc⟩
  · rw [← wsl_push h8 y c]
    refine (hP.kept (fun k q hk => oqq q.1 ((hP k q hk).lt))).app (fun k q hk => ?_)
    have hz2 : k < 1 := (List.getElem?_eq_some_iff.mp hk).1
    rw [show k = 0 by omega] at hk
    cases hk
    rw [e]
    exact he
  · show H1.size = N0 + (h.1 + 1 - 8)
    rw [z, hz]; omega

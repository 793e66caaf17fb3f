/-! THE LAW'S ENTRY: the facts that hold there, and what is owed of the abstract machine -/
def inT (p : Nat) (w : Cond) : Bool := decide ((tbk ((p - 136) / 240))[(p - 136) % 240]? = some w)
theorem inT_in {p : Nat} {w : Cond} (h : inT p w = true) : w ∈ lw_tbl := List.mem_append_right _ (tbk_in (List.mem_of_getElem? (of_decide_eq_true h)))
def NF : List Cond := flatC narrow_1
def instP : List Nat := [243, 173, 462, 443, 500, 362, 179, 398, 368, 261, 167, 159, 1171]
theorem inst_all : ∀ k, k < 13 → Gat (instP.getD k 0) (.instantiable (ownS k) (NXs k)) = true := by decide +kernel
def nestP : List Nat := [168, 174, 180, 244, 266, 269, 363, 369, 399, 403, 449, 463, 468, 470, 501, 686, 742, 808, 877, 949, 1113]
theorem nest_in : ∀ w ∈ nestW, w ∈ lw_tbl := by
  have key : (nestW.zip nestP).all (fun q => inT q.2 q.1) = true := by decide +kernel
  have hl : nestW = (nestW.zip nestP).map (fun q => q.1) := by decide +kernel
  intro w hw
  rw [hl] at hw
  obtain ⟨q, hq, rfl⟩ := List.mem_map.mp hw
  exact inT_in (List.all_eq_true.mp key q hq)
abbrev tmS (i : Nat) : Term := .string RX6 (stI.getD i 0)
abbrev tmV (i : Nat) : Term := .field (tmS i) "java/lang/String" "value" "[B"
def posS : List (List Nat) := [[15, 16, 17, 18, 19], [139, 140, 141, 142, 143], [256, 257, 258, 259, 260]]
theorem pos_ex : ∀ i, i < 3 → NF[(posS.getD i []).getD 0 0]? = some (.exactly (tmS i) "java/lang/String") := by decide +kernel
theorem pos_co : ∀ i, i < 3 → NF[(posS.getD i []).getD 1 0]? = some (.eq (.field (tmS i) "java/lang/String" "coder" "B") (.int 0)) := by decide +kernel
theorem pos_ar : ∀ i, i < 3 → NF[(posS.getD i []).getD 2 0]? = some (.arrayOf (tmV i) .byte) := by decide +kernel
theorem pos_le : ∀ i, i < 3 → NF[(posS.getD i []).getD 3 0]? = some (.eq (.length (tmV i)) (.int (Int32.ofNat (stL.getD i 0)))) := by decide +kernel
theorem pos_el : ∀ i, i < 3 → ∀ j, j < stL.getD i 0 → NF[(posS.getD i []).getD 4 0 + j]? = some (.eq (.elem (tmV i) (.int (Int32.ofNat j))) (.int ((stB.getD i []).getD j 0))) := by decide +kernel
theorem pos_mo : ∀ j, j < 5 → NF[5 + j]? = some (.eq (.elem (.static "MoodBread" "MOST_OF" "[I") (.int (Int32.ofNat j))) (.int (mof j))) := by decide +kernel
theorem sref_in : ∀ i, i < 3 → inT ([615, 616, 617].getD i 0) (.stringRef RX6 (stI.getD i 0) (stT.getD i "")) = true := by decide +kernel
def oldA (b t : Nat) (adK adV : Nat → Nat) : Nat → Nat := fun k => if k = 0 then b else if k = 1 then t else if k < 5 then adK (k - 2) else adV (k - 5)
theorem Fx_start {args : Array Value} {s : State} {b L : Nat} {xs : Nat → Int32} (hts : ∀ w ∈ lw_tbl, w.before args s = true) (hX : va_X b L xs s s.heap) (hbl : b < s.heap.size) (hgv : (Jvm.Cond.and given_1 narrow_1).before args s = true) :
    ∃ (G : va_G) (cy : Nat → ClassId) (oq : Option Nat) (old : Nat → Nat), old 0 = b ∧ Fx G cy oq old s.heap.size L xs s s.heap := by
  have hA : ∀ a : Nat, a < s.heap.size → ¬ s.heap.size ≤ a := fun a h => Nat.not_le.mpr h
  have hGl : ∀ w ∈ Gl, w.before args s = true := fun w hw => hts w (List.mem_filter.mp hw).1
  have hs := flat_of_before _ hgv
  have hN : ∀ (p : Nat) (w : Cond), NF[p]? = some w → w.before args s = true := fun p w hp => hs w (by
    show w ∈ flatC given_1 ++ flatC narrow_1
    exact List.mem_append_right _ (List.mem_of_getElem? hp))
  -- classes
  have hcls : ∀ k : Nat, ∃ q : ClassId × (Nat → Nat), k < 13 → u_Kn s (ownS k) (TXs k) (NXs k) q.1 q.2 := by
    intro k
    by_cases hk : k < 13
    · obtain ⟨c0, i0, h0⟩ := u_known (C := ownS k) (T := TXs k) (N := NXs k) (n := NXs k) hGl (ws_in hk) (hGl _ (Gat_in (inst_all k hk)))
      exact ⟨(c0, i0), fun _ => h0⟩
    · exact ⟨(0, fun _ => 0), fun h => absurd h hk⟩
  obtain ⟨gd, hgd⟩ := Classical.axiomOfChoice hcls
  -- arrays
  have harr : ∀ ty : FieldType, (∀ C, ty ≠ .object C) → (Cond.arrayClass ty).before args s = true → ∃ cA : ClassId, ArrOfT s cA ty ∧ s.vm.findClass ("[" ++ ty.toString) = some cA := by
    intro ty hne h
    obtain ⟨cA, kA, comp, h1, h2, h3⟩ := Cond.arrayClass_spec h
    exact ⟨cA, fun n z => ⟨fun k h => (by cases h), kA, h2, comp, h3⟩, h1⟩
  obtain ⟨cC, hc1, hc2⟩ := harr .char (fun C h => by cases h) (hGl _ arrC_in)
  obtain ⟨cI, hi1, hi2⟩ := harr .int (fun C h => by cases h) (hGl _ arrI_in)
  obtain ⟨cJ, hj1, hj2⟩ := harr .long (fun C h => by cases h) (hGl _ arrJ_in)
  have hover : (Cond.arrayOver (.object RX7)).before args s = true := hts _ (inT_in (p := 441) (by decide +kernel))
  obtain ⟨comp, cS, kS, g1, -, g3, g4, g5⟩ := Cond.arrayOver_spec hover
  -- MOST_OF
  have hmv : (Term.length (.static "MoodBread" "MOST_OF" "[I")).eval args s none [] s = some (.int (Int32.ofNat 5)) := va_eqt (hN 4 _ (by decide +kernel))
  obtain ⟨t, htv, htT⟩ := va_Tof (tm := .static "MoodBread" "MOST_OF" "[I") (ty := .int) (N := 5) (f := fun j => .int (mof j)) (A := fun q => s.heap.size ≤ q) (by decide) (hN 3 _ (by decide +kernel)) hmv (fun j hj => va_eqt (hN (5 + j) _ (pos_mo j hj))) hA
  have htZ : va_Z "MoodBread" "MOST_OF" "[I" (.ref t) (fun q => s.heap.size ≤ q) s s.heap := va_Zof (hts _ (inT_in (p := 267) (by decide +kernel))) (hGl _ (Gat_in (p := 137) (by decide +kernel))) htv hA
  -- strings
  have hlen : ∀ i, i < 3 → stL.getD i 0 < 2 ^ 31 := by decide
  obtain ⟨adK, adV, hS, hSv⟩ := vk_Sof (args := args) (s := s) (N := 3) (tm := tmS) (len := stL) (byt := stB) (A := fun q => s.heap.size ≤ q) hlen (fun i hi => hN _ _ (pos_ex i hi)) (fun i hi => hN _ _ (pos_co i hi)) (fun i hi => hN _ _ (pos_ar i hi)) (fun i hi => hN _ _ (pos_le i hi)) (fun i hi j hj => hN _ _ (pos_el i hi j hj)) (by
    intro i j hi hj hne
    have n1 := hN 255 (.not (.eq (tmS 0) (tmS 1))) (by decide +kernel)
    have n2 := hN 324 (.not (.eq (tmS 0) (tmS 2))) (by decide +kernel)
    have n3 := hN 325 (.not (.eq (tmS 1) (tmS 2))) (by decide +kernel)
    have : (i = 0 ∧ j = 1) ∨ (i = 1 ∧ j = 0) ∨ (i = 0 ∧ j = 2) ∨ (i = 2 ∧ j = 0) ∨ (i = 1 ∧ j = 2) ∨ (i = 2 ∧ j = 1) := by omega
    rcases this with ⟨rfl, rfl⟩ | ⟨rfl, rfl⟩ | ⟨rfl, rfl⟩ | ⟨rfl, rfl⟩ | ⟨rfl, rfl⟩ | ⟨rfl, rfl⟩
    · exact Or.inl n1
    · exact Or.inr n1
    · exact Or.inl n2
    · exact Or.inr n2
    · exact Or.inl n3
    · exact Or.inr n3) hA
  have hcs : va_Z "java/lang/String" "COMPACT_STRINGS" "Z" (.int 1) (fun q => s.heap.size ≤ q) s s.heap := va_Zof (hts _ (inT_in (p := 627) (by decide +kernel))) (hGl _ (Gat_in (p := 152) (by decide +kernel))) (va_eqt (hN 10 _ (by decide +kernel))) hA
  have hfm := va_Zqof (A := fun q => s.heap.size ≤ q) (hts _ (inT_in (p := 643) (by decide +kernel))) (hGl _ (Gat_in (p := 154) (by decide +kernel))) (hN 11 (.isRef (.static "jdk/internal/util/Preconditions" "SIOOBE_FORMATTER" "Ljava/util/function/BiFunction;")) (by decide +kernel)) hA
  obtain ⟨oq, hoq⟩ : ∃ oq : Option Nat, va_Z "jdk/internal/util/Preconditions" "SIOOBE_FORMATTER" "Ljava/util/function/BiFunction;" (va_rf oq) (fun q => s.heap.size ≤ q) s s.heap := by
    rcases hfm with h | ⟨t, h⟩
    · exact ⟨none, h⟩
    · exact ⟨some t, h⟩
  have e2 : ∀ i, i < 3 → oldA b t adK adV (2 + i) = adK i := fun i hi => by
    unfold oldA
    rw [if_neg (by omega), if_neg (by omega), if_pos (by omega), Nat.add_sub_cancel_left]
  have e5 : ∀ i, i < 3 → oldA b t adK adV (5 + i) = adV i := fun i hi => by
    unfold oldA
    rw [if_neg (by omega), if_neg (by omega), if_neg (by omega), Nat.add_sub_cancel_left]
  refine ⟨(fun k => (gd k).1, fun k => (gd k).2), fun k => if k = 0 then cC else if k = 1 then cI else if k = 2 then cJ else cS, oq, oldA b t adK adV, rfl, ?_, ⟨?_, ?_⟩, hover, ⟨hX, hbl, hA b hbl⟩, ⟨htZ, htT⟩, ⟨fun i hi => ?_, ?_⟩, hcs, hoq⟩
  · intro w hw
    exact va_Nw.of (nest_kind w hw).1 (hts w (nest_in w hw))
  · intro k q hq
    have hk : k < 13 := (List.getElem?_eq_some_iff.mp hq).1
    rw [cl_in hk] at hq
    cases hq
    exact hgd k hk
  · intro k q hq
    have hk : k < 4 := (List.getElem?_eq_some_iff.mp hq).1
    have : k = 0 ∨ k = 1 ∨ k = 2 ∨ k = 3 := by omega
    rcases this with rfl | rfl | rfl | rfl
    · cases hq; exact ⟨hc1, hc2⟩
    · cases hq; exact ⟨hi1, hi2⟩
    · cases hq; exact ⟨hj1, hj2⟩
    · cases hq
      exact ⟨fun N z => ⟨fun k h => (by cases h), kS, g3, comp, g4⟩, kS, comp, g3, g4, g1, g5⟩
  · rw [e2 i hi]
    exact vk_R.of (hts _ (inT_in (sref_in i hi))) (hSv i hi)
  · refine ⟨fun i hi => ?_, fun i j hi hj e => ?_⟩
    · dsimp only
      rw [e2 i hi, e5 i hi]
      exact hS.1 i hi
    · dsimp only at e
      rw [e2 i hi, e2 j hj] at e
      exact hS.2 i j hi hj e
/-- the heap at the law's entry: the old cells alone -/
def h0f (L : Nat) (xs : Nat → Int32) : Nat → AC := fun k => if k = 0 then .inl (5, L, .inl xs) else if k = 1 then .inl (5, 5, .inl mof) else if k < 5 then .inr (13, [.ref (5 + (k - 2)), .int 0]) else if k < 8 then .inl (4, stL.getD (k - 5) 0, .inl (fun j => (stB.getD (k - 5) []).getD j 0)) else junk
def h0 (L : Nat) (xs : Nat → Int32) : Hp := (8, 0, h0f L xs)
theorem wf_h0 (L : Nat) (xs : Nat → Int32) : wf L xs (h0 L xs) := by
  refine ⟨Nat.le_refl _, rfl, rfl, fun i hi => ?_, fun i hi => ?_, fun a ha => ?_, fun a h1 h2 => ?_⟩
  · have : i = 0 ∨ i = 1 ∨ i = 2 := by omega
    rcases this with rfl | rfl | rfl <;> rfl
  · have : i = 0 ∨ i = 1 ∨ i = 2 := by omega
    rcases this with rfl | rfl | rfl <;> rfl
  · have ha : 8 ≤ a := ha
    show h0f L xs a = _
    unfold h0f
    rw [if_neg (by omega), if_neg (by omega), if_neg (by omega), if_neg (by omega)]
  · have h2 : a < 8 := h2
    omega
/-- WHAT IS OWED OF THE ABSTRACT MACHINE: the law answers 1, within the room -/
def Owed (N : Nat) : Prop := ∀ (L : Nat) (xs : Nat → Int32), L ≤ N → ∃ (hE : Hp), Rn (X 100) 19 (some .boolean) false 4 cL_law (0, [(0, .ref 0)], [], h0 L xs) = some (some (.int 1), hE) ∧ hE.1 ≤ 600000 ∧ hE.2.1 ≤ 7302250

/-! THE START: the world before any town -/
theorem cnt_B0 (kind : Nat) : cntK B0.1 kind = 0 := by
  unfold cntK
  repeat' split
  all_goals rfl
set_option maxRecDepth 100000 in
theorem WK_M0 : WK M0 := by
  have h : (wcL.all fun p => (List.range (WLs.getD p.2 []).length).all fun i => decide (M0 p.1 (i : Nat) = (((WLs.getD p.2 []).getD i 0 : Nat) : Int))) = true := by decide +kernel
  intro p hp' i hi
  have h1 := List.all_eq_true.mp h p hp'
  have h2 := List.all_eq_true.mp h1 i (List.mem_range.mpr hi)
  exact of_decide_eq_true h2
theorem W0_12 : W0 12 = zI 1600 := rfl
theorem W0_219 : W0 219 = zI 1600 := rfl
theorem W0_172 : W0 172 = zI 6 := rfl
theorem W0_220 : W0 220 = zI 6 := rfl
theorem M0_z {a m : Nat} (h : W0 a = zI m) (i : Int) : M0 a i = 0 := by
  show dcA (W0 a) i = 0
  rw [h]
  rfl
theorem SuK_0 : SuK M0 41 ∧ SuK M0 158 := by
  unfold SuK
  decide +kernel
set_option maxRecDepth 100000 in
theorem world_0 : World M0 := by
  have n1 : ((np B0.1 : Nat) : Int) = 0 := rfl
  have n2 : ((nl B0.1 : Nat) : Int) = 0 := rfl
  have n3 : ((ne B0.1 : Nat) : Int) = 0 := rfl
  have n4 : nd B0.1 = 0 := rfl
  have e12 : M0 12 = fun _ => 0 := funext fun i => M0_z W0_12 i
  have e219 : M0 219 = fun _ => 0 := funext fun i => M0_z W0_219 i
  refine ⟨B0.1, bgS B0, [], B0.2.1, 0, fun _ => 0, 0, fun _ => 0, 0, -1, 1, fun _ => 0, [], ⟨15, 28, ⟨by decide +kernel, k15, ⟨⟨by decide +kernel, by decide +kernel, by decide +kernel, by decide +kernel, by decide +kernel⟩, fun l l0 l1 => by omega, fun i i0 i1 => by omega, fun j hj => ?_, ⟨by decide +kernel, by decide +kernel, by decide +kernel⟩, by decide +kernel, fun c hc h => Or.inl ⟨rfl, rfl, rfl⟩⟩, ⟨by decide +kernel, fun p m p0 p1 => by omega, fun l m l0 l1 => by omega, fun l l0 l1 => by omega⟩, SuK_0.1, SuK_0.2⟩, ⟨⟨by decide +kernel, by simp⟩, by decide +kernel, fun j y hj => by simp at hj⟩, fun kind j hk hj => ?_, ⟨⟨by decide +kernel, by omega⟩, fun i i0 i1 => by omega⟩, ⟨by decide +kernel, k28, by omega⟩, by decide +kernel, e12, ⟨by decide +kernel, by decide +kernel⟩, by decide +kernel, fun i _ _ => M0_z W0_172 i, ⟨by decide +kernel, fun j y hj => by simp at hj⟩⟩, ⟨⟨⟨⟨by decide +kernel, by decide +kernel, by decide +kernel, by decide +kernel, by decide +kernel⟩, fun l l0 l1 => by omega, fun i i0 i1 => by omega, ⟨by decide +kernel, by decide +kernel, by decide +kernel⟩, fun h => absurd h (by decide), fun h => absurd h (by decide), fun d hd => by omega⟩, ⟨by decide +kernel, fun p m p0 p1 => by omega, fun l m l0 l1 => by omega, fun l l0 l1 => by omega⟩⟩, ⟨⟨by decide +kernel, by simp⟩, by decide +kernel, fun j y hj => by simp at hj⟩, fun kind j hk hj => ?_, ⟨⟨by decide +kernel, by omega⟩, fun i i0 i1 => by omega⟩, by decide +kernel, e219, ⟨by decide +kernel, by decide +kernel⟩, by decide +kernel, fun i _ _ => M0_z W0_220 i, ⟨by decide +kernel, fun j y hj => by simp at hj⟩, WK_M0⟩, ⟨wfB_0.1, wf_bgS wfB_0, fun y hy => by simp at hy, fun kind j hk hj => ?_, fun r hr => by omega, by omega, fun i _ _ => by simp, by omega, by simp⟩⟩
  · rcases hj with h | rfl | rfl
    · omega
    · exact ⟨by decide +kernel, by decide +kernel, by decide +kernel, trivial⟩
    · exact ⟨by decide +kernel, by decide +kernel, by decide +kernel, trivial⟩
  · rw [cnt_B0] at hj; omega
  · rw [cnt_B0] at hj; omega
  · rw [cnt_B0] at hj; omega

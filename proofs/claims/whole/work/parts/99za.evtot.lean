/-! reading ends: with fuel enough ev tells something -/
theorem bnd_tot {x : Option Rz} {F : Nat → Bool → List Nat → Option Rz} (h : ∃ r, x = some r) (h2 : ∀ e nb cs, x = some (.inl (e, nb, cs)) → ∃ r, F e nb cs = some r) : ∃ r, bnd x F = some r := by
  obtain ⟨r, h⟩ := h
  rcases r with ⟨e, nb, cs⟩ | y
  · obtain ⟨r, h3⟩ := h2 e nb cs h
    exact ⟨r, by rw [h]; exact h3⟩
  · exact ⟨.inr y, by rw [h]; rfl⟩
def rkE (tag : Nat) : Nat := if tag = 0 then 6 else if tag = 2 then 5 else if tag = 4 then 4 else if tag = 5 then 3 else if tag = 7 then 2 else if tag = 9 then 1 else 0
section
variable {g : Int → Int} {k wh : Nat}
theorem ev_tot : ∀ (f tag op e : Nat) (nb : Bool), tag ≤ 9 → e ≤ k → 8 * (k - e) + rkE tag < f → ∃ r, ev g k wh f tag op e nb = some r := by
  intro f
  induction f with
  | zero => intro tag op e nb _ _ h; omega
  | succ f ih =>
    intro tag op e nb htag he hf
    have r0 : rkE 0 = 6 := rfl
    have r1 : rkE 1 = 0 := rfl
    have r2 : rkE 2 = 5 := rfl
    have r3 : rkE 3 = 0 := rfl
    have r4 : rkE 4 = 4 := rfl
    have r5 : rkE 5 = 3 := rfl
    have r6 : rkE 6 = 0 := rfl
    have r7 : rkE 7 = 2 := rfl
    have r8 : rkE 8 = 0 := rfl
    have r9 : rkE 9 = 1 := rfl
    rcases (show tag = 0 ∨ tag = 1 ∨ tag = 2 ∨ tag = 3 ∨ tag = 4 ∨ tag = 5 ∨ tag = 6 ∨ tag = 7 ∨ tag = 8 ∨ tag = 9 by omega) with rfl | rfl | rfl | rfl | rfl | rfl | rfl | rfl | rfl | rfl
    · rw [ev_t0]
      refine bnd_tot (ih 2 op e nb (by omega) he (by omega)) (fun e1 n1 c1 h1 => ?_)
      have l1 := ev_len h1 he
      have l2 := l1.2.2 (by simp)
      exact bnd_tot (ih 1 op e1 n1 (by omega) l1.1 (by omega)) (fun e2 n2 c2 h2 => ⟨_, rfl⟩)
    · rw [ev_t1]
      split
      · rename_i q
        have hn := nx_step (g := g) he (by have := Wd_K q; omega)
        refine bnd_tot (ih 2 op _ _ (by omega) hn.2 (by omega)) (fun e1 n1 c1 h1 => ?_)
        have l1 := ev_len h1 hn.2
        exact bnd_tot (ih 1 op e1 n1 (by omega) l1.1 (by omega)) (fun e2 n2 c2 h2 => ⟨_, rfl⟩)
      · exact ⟨_, rfl⟩
    · rw [ev_t2]
      refine bnd_tot (ih 4 op e nb (by omega) he (by omega)) (fun e1 n1 c1 h1 => ?_)
      have l1 := ev_len h1 he
      have l2 := l1.2.2 (by simp)
      exact bnd_tot (ih 3 op e1 n1 (by omega) l1.1 (by omega)) (fun e2 n2 c2 h2 => ⟨_, rfl⟩)
    · rw [ev_t3]
      split
      · rename_i q
        have hn := nx_step (g := g) he (by have := Wd_K q; omega)
        refine bnd_tot (ih 4 op _ _ (by omega) hn.2 (by omega)) (fun e1 n1 c1 h1 => ?_)
        have l1 := ev_len h1 hn.2
        exact bnd_tot (ih 3 op e1 n1 (by omega) l1.1 (by omega)) (fun e2 n2 c2 h2 => ⟨_, rfl⟩)
      · exact ⟨_, rfl⟩
    · rw [ev_t4]
      split
      · rename_i q
        have hn := nx_step (g := g) he (by have := Wd_K q; omega)
        split
        · exact ⟨_, rfl⟩
        · exact bnd_tot (ih 4 (op + 1) _ _ (by omega) hn.2 (by omega)) (fun e2 n2 c2 h2 => ⟨_, rfl⟩)
      · split
        · rename_i q
          have hn := nx_step (g := g) he (by have := Sg_K q; omega)
          split
          · exact ⟨_, rfl⟩
          · refine bnd_tot (ih 0 (op + 1) _ _ (by omega) hn.2 (by omega)) (fun e2 n2 c2 h2 => ?_)
            split
            · exact ⟨_, rfl⟩
            · exact ⟨_, rfl⟩
        · split
          · exact ⟨_, rfl⟩
          · refine bnd_tot (ih 5 op e nb (by omega) he (by omega)) (fun e1 n1 c1 h1 => ?_)
            have l1 := ev_len h1 he
            split
            · rename_i q2
              have hn2 := nx_step (g := g) l1.1 (by rcases q2 with q2 | q2 | q2 <;> (have := Sg_K q2; omega))
              exact bnd_tot (ih 5 op _ _ (by omega) hn2.2 (by omega)) (fun e2 n2 c2 h2 => ⟨_, rfl⟩)
            · exact ⟨_, rfl⟩
    · rw [ev_t5]
      refine bnd_tot (ih 7 op e nb (by omega) he (by omega)) (fun e1 n1 c1 h1 => ?_)
      have l1 := ev_len h1 he
      have l2 := l1.2.2 (by simp)
      exact bnd_tot (ih 6 op e1 n1 (by omega) l1.1 (by omega)) (fun e2 n2 c2 h2 => ⟨_, rfl⟩)
    · rw [ev_t6]
      split
      · rename_i q
        have hn := nx_step (g := g) he (by rcases q with q | q <;> (have := Sg_K q; omega))
        refine bnd_tot (ih 7 op _ _ (by omega) hn.2 (by omega)) (fun e1 n1 c1 h1 => ?_)
        have l1 := ev_len h1 hn.2
        exact bnd_tot (ih 6 op e1 n1 (by omega) l1.1 (by omega)) (fun e2 n2 c2 h2 => ⟨_, rfl⟩)
      · exact ⟨_, rfl⟩
    · rw [ev_t7]
      refine bnd_tot (ih 9 op e nb (by omega) he (by omega)) (fun e1 n1 c1 h1 => ?_)
      have l1 := ev_len h1 he
      have l2 := l1.2.2 (by simp)
      exact bnd_tot (ih 8 op e1 n1 (by omega) l1.1 (by omega)) (fun e2 n2 c2 h2 => ⟨_, rfl⟩)
    · rw [ev_t8]
      split
      · rename_i q
        have hn := nx_step (g := g) he (by rcases q with q | q <;> (have := Sg_K q; omega))
        refine bnd_tot (ih 9 op _ _ (by omega) hn.2 (by omega)) (fun e1 n1 c1 h1 => ?_)
        have l1 := ev_len h1 hn.2
        exact bnd_tot (ih 8 op e1 n1 (by omega) l1.1 (by omega)) (fun e2 n2 c2 h2 => ⟨_, rfl⟩)
      · exact ⟨_, rfl⟩
    · rw [ev_t9]
      split
      · split
        · exact ⟨_, rfl⟩
        · exact ⟨_, rfl⟩
      · split
        · rename_i q
          have hn := nx_step (g := g) he (by have := Sg_K q; omega)
          split
          · exact ⟨_, rfl⟩
          · refine bnd_tot (ih 5 (op + 1) _ _ (by omega) hn.2 (by omega)) (fun e2 n2 c2 h2 => ?_)
            split
            · exact ⟨_, rfl⟩
            · exact ⟨_, rfl⟩
        · split
          · exact ⟨_, rfl⟩
          · rename_i q
            have q := Classical.not_not.mp q
            have hn := nx_step (g := g) he (by have := J_K q (by omega); omega)
            split
            · split
              · rename_i q2
                have hn2 := nx_step (g := g) hn.2 (by have := Sg_K q2; omega)
                split
                · exact ⟨_, rfl⟩
                · refine bnd_tot (ih 5 (op + 1) _ _ (by omega) hn2.2 (by omega)) (fun e1 n1 c1 h1 => ?_)
                  have l1 := ev_len h1 hn2.2
                  split
                  · rename_i q3
                    have hn3 := nx_step (g := g) l1.1 (by have := Sg_K q3; omega)
                    refine bnd_tot (ih 5 (op + 1) _ _ (by omega) hn3.2 (by omega)) (fun e2 n2 c2 h2 => ?_)
                    split
                    · exact ⟨_, rfl⟩
                    · exact ⟨_, rfl⟩
                  · exact ⟨_, rfl⟩
              · exact ⟨_, rfl⟩
            · split
              · split
                · exact ⟨_, rfl⟩
                · exact bnd_tot (ih 9 (op + 1) _ _ (by omega) hn.2 (by omega)) (fun e2 n2 c2 h2 => ⟨_, rfl⟩)
              · split
                · exact ⟨_, rfl⟩
                · exact ⟨_, rfl⟩
end

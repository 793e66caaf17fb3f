/-! parts by a waiting stack; all of it -/
section
variable {g : Int → Int} {k wh : Nat}
theorem mst_close {e op b : Nat} {nb : Bool} {T V C : List Nat} (hT : arT T) (hb : b = 20 ∨ b = 23 ∨ b = 24) (h : isSg g k e 41) : mst g k wh (2, e, nb, op, T ++ b :: V, C) = (1, tkQ g k e, nxB g k e nb, op - 1, V, C ++ T ++ (if b = 20 then [] else if b = 23 then [5] else [6])) := by
  obtain ⟨t1, t2, t3⟩ := tk_br (V := V) hT (show 20 ≤ b by omega) (show b ≤ 24 by omega)
  unfold mst
  dsimp only
  rw [if_neg (by omega), if_neg (by omega), if_pos rfl, if_pos ⟨h, by rw [t3]; exact hb⟩, t1, t2, t3]
  rfl
theorem mst_open {e op b : Nat} {nb : Bool} {T V C : List Nat} (hT : arT T) (hb : 20 ≤ b ∧ b ≤ 24) (hc : ¬ (isSg g k e 41 ∧ (b = 20 ∨ b = 23 ∨ b = 24))) (h1 : nMu g k e) (h2 : nAr g k e) (h3 : ¬ (isSg g k e 44 ∧ (b = 21 ∨ b = 22))) : mst g k wh (2, e, nb, op, T ++ b :: V, C) = Flt 1 (skp g k e) := by
  obtain ⟨t1, t2, t3⟩ := tk_br (V := V) hT hb.1 hb.2
  unfold mst
  dsimp only
  rw [if_neg (by omega), if_neg (by omega), if_pos rfl, if_neg (by rw [t3]; exact hc), if_neg h1, if_neg h2, t3]
  by_cases q : b = 21 ∨ b = 22
  · rw [if_pos q, if_neg (fun h => h3 ⟨h, q⟩)]
  · rw [if_neg q, if_neg (by omega)]
theorem mst_comma {e op b : Nat} {nb : Bool} {T V C : List Nat} (hT : arT T) (hb : b = 21 ∨ b = 22) (h : isSg g k e 44) : mst g k wh (2, e, nb, op, T ++ b :: V, C) = (0, tkQ g k e, nxB g k e nb, op, (b + 2) :: V, C ++ T) := by
  obtain ⟨t1, t2, t3⟩ := tk_br (V := V) hT (show 20 ≤ b by omega) (show b ≤ 24 by omega)
  unfold mst
  dsimp only
  rw [if_neg (by omega), if_neg (by omega), if_pos rfl, if_neg (fun h' => Sg_ne h (by omega) h'.1), if_neg (fun h' => by rcases h' with h' | h' <;> exact Sg_ne h (by omega) h'), if_neg (fun h' => by rcases h' with h' | h' <;> exact Sg_ne h (by omega) h'), t3, if_pos hb, if_pos h, t1, t2]
  rfl
theorem sim_pa {f : Nat} (hS : SSu g k wh f) (hA : SPa g k wh f) : SPa g k wh (f + 1) := by
  intro op e nb r V C h
  rw [ev_t9] at h
  have m0 : mst g k wh (0, e, nb, op, V, C) = (if tkJ g k e nb = 2 then (if tkQ g k e - skp g k e ≤ 4 then (1, tkQ g k e, nxB g k e nb, op, V, C ++ [1000 + (vaF g k e).toNat]) else Flt 1 (skp g k e + 4))
    else @ite _ (isSg g k e 40) (Classical.propDecidable _) (if 6 ≤ op then Flt 4 (skp g k e) else (0, tkQ g k e, nxB g k e nb, op + 1, 20 :: V, C))
    (if ¬ tkJ g k e nb = 1 then Flt 1 (skp g k e)
    else if tkW g k e = 27 ∨ tkW g k e = 28 then @ite _ (isSg g k (tkQ g k e) 40) (Classical.propDecidable _) (if 6 ≤ op then Flt 4 (skp g k (tkQ g k e)) else (0, tkQ g k (tkQ g k e), nxB g k (tkQ g k e) (nxB g k e nb), op + 1, (if tkW g k e = 27 then 21 else 22) :: V, C)) (Flt 1 (skp g k (tkQ g k e)))
    else @ite _ (askd wh (tkW g k e)) (Classical.propDecidable _) (if 6 ≤ op then Flt 4 (skp g k e) else (0, tkQ g k e, nxB g k e nb, op + 1, qc (tkW g k e).toNat :: V, C))
    (@ite _ (alon wh (tkW g k e)) (Classical.propDecidable _) (1, tkQ g k e, nxB g k e nb, op, V, C ++ [qc (tkW g k e).toNat]) (Flt 1 (skp g k e))))) := by
    unfold mst
    dsimp only
    rw [if_pos rfl]
  split at h
  · rename_i q
    rw [if_pos q] at m0
    split at h
    · rename_i q4
      cases h
      rw [if_pos q4] at m0
      have e1 : qc (256 + (vaF g k e).toNat) = 1000 + (vaF g k e).toNat := by
        unfold qc
        rw [if_pos (by omega)]
        omega
      show Rns g k wh _ (_, _, _, _, _, C ++ List.map qc [256 + (vaF g k e).toNat])
      rw [List.map_cons, List.map_nil, e1]
      exact Rns_1 m0
    · rename_i q4
      cases h
      rw [if_neg q4] at m0
      exact Rns_1 m0
  · rename_i nq2
    rw [if_neg nq2] at m0
    split at h
    · rename_i q
      rw [if_pos q] at m0
      split at h
      · rename_i h6
        cases h
        rw [if_pos h6] at m0
        exact Rns_1 m0
      · rename_i h6
        rw [if_neg h6] at m0
        have hbo : brO (20 :: V) := Or.inr ⟨20, V, rfl, by omega, by omega⟩
        rcases bnd_some h with ⟨x, hx, rfl⟩ | ⟨e1, n1, c1, hx, h⟩
        · exact Rns_trans (Rns_1 m0) (hS _ _ _ _ (20 :: V) C hbo hx)
        · obtain ⟨T, C1, a1, a2, a3, a4, a5⟩ := hS _ _ _ _ (20 :: V) C hbo hx
          have R := Rns_trans (Rns_1 m0) a1
          split at h
          · rename_i q2
            cases h
            have := mst_close (wh := wh) (nb := n1) (op := op + 1) (V := V) (C := C1) a2 (b := 20) (Or.inl rfl) q2
            rw [if_pos rfl, List.append_nil, a3] at this
            exact Rns_trans R (Rns_1 this)
          · rename_i q2
            cases h
            exact Rns_trans R (Rns_1 (mst_open a2 (by omega) (fun h => q2 h.1) a4 a5 (by omega)))
    · rename_i nq
      rw [if_neg nq] at m0
      split at h
      · rename_i q1
        cases h
        rw [if_pos q1] at m0
        exact Rns_1 m0
      · rename_i q1
        rw [if_neg q1] at m0
        split at h
        · rename_i q27
          rw [if_pos q27] at m0
          split at h
          · rename_i q40
            rw [if_pos q40] at m0
            split at h
            · rename_i h6
              cases h
              rw [if_pos h6] at m0
              exact Rns_1 m0
            · rename_i h6
              rw [if_neg h6] at m0
              have hqc : [qc (tkW g k e).toNat] = (if (if tkW g k e = 27 then 21 else 22) + 2 = 20 then [] else if (if tkW g k e = 27 then 21 else 22) + 2 = 23 then [5] else [6]) := by
                rcases q27 with h | h <;> (rw [h]; rfl)
              generalize hbb : (if tkW g k e = 27 then 21 else 22) = b at *
              have hb21 : b = 21 ∨ b = 22 := by rw [← hbb]; split <;> simp
              have hbo : brO (b :: V) := Or.inr ⟨b, V, rfl, by omega, by omega⟩
              have hbo2 : brO ((b + 2) :: V) := Or.inr ⟨b + 2, V, rfl, by omega, by omega⟩
              rcases bnd_some h with ⟨x, hx, rfl⟩ | ⟨ea, na, ca, hx, h⟩
              · exact Rns_trans (Rns_1 m0) (hS _ _ _ _ (b :: V) C hbo hx)
              · obtain ⟨T, C1, a1, a2, a3, a4, a5⟩ := hS _ _ _ _ (b :: V) C hbo hx
                have R := Rns_trans (Rns_1 m0) a1
                split at h
                · rename_i q44
                  have R2 := Rns_trans R (Rns_1 (mst_comma (wh := wh) (nb := na) (op := op + 1) (V := V) (C := C1) a2 hb21 q44))
                  rw [a3] at R2
                  rcases bnd_some h with ⟨x, hy, rfl⟩ | ⟨eb, nb', cb, hy, h⟩
                  · exact Rns_trans R2 (hS _ _ _ _ ((b + 2) :: V) _ hbo2 hy)
                  · obtain ⟨T2, C2, b1, b2, b3, b4, b5⟩ := hS _ _ _ _ ((b + 2) :: V) (C ++ ca.map qc) hbo2 hy
                    have R3 := Rns_trans R2 b1
                    split at h
                    · rename_i q41
                      cases h
                      have := mst_close (wh := wh) (nb := nb') (op := op + 1) (V := V) (C := C2) b2 (b := b + 2) (by omega) q41
                      rw [← hqc, b3] at this
                      have R4 := Rns_trans R3 (Rns_1 this)
                      show Rns g k wh _ (_, _, _, _, _, C ++ List.map qc (ca ++ cb ++ [(tkW g k e).toNat]))
                      simpa [List.append_assoc] using R4
                    · rename_i q41
                      cases h
                      exact Rns_trans R3 (Rns_1 (mst_open b2 (by omega) (fun h => q41 h.1) b4 b5 (by omega)))
                · rename_i q44
                  cases h
                  exact Rns_trans R (Rns_1 (mst_open a2 (by omega) (by omega) a4 a5 (fun h => q44 h.1)))
          · rename_i q40
            cases h
            rw [if_neg q40] at m0
            exact Rns_1 m0
        · rename_i nq27
          rw [if_neg nq27] at m0
          split at h
          · rename_i qa
            rw [if_pos qa] at m0
            have hq60 : 60 ≤ qc (tkW g k e).toNat := by
              unfold askd at qa
              rcases qa with ⟨h | h, -⟩ | ⟨h, -⟩ <;> (rw [h]; decide)
            split at h
            · rename_i h6
              cases h
              rw [if_pos h6] at m0
              exact Rns_1 m0
            · rename_i h6
              rw [if_neg h6] at m0
              rcases bnd_some h with ⟨x, hx, rfl⟩ | ⟨e1, n1, c1, hx, h⟩
              · exact Rns_trans (Rns_1 m0) (hA _ _ _ _ (qc (tkW g k e).toNat :: V) C hx)
              · cases h
                have a := hA _ _ _ _ (qc (tkW g k e).toNat :: V) C hx
                dsimp only at a
                have pd : mst g k wh (1, e1, n1, op + 1, qc (tkW g k e).toNat :: V, C ++ c1.map qc) = (1, e1, n1, op, V, C ++ c1.map qc ++ [qc (tkW g k e).toNat]) := by
                  unfold mst
                  dsimp only
                  rw [if_neg (by omega), if_pos rfl, if_pos hq60]
                  rfl
                have R := Rns_trans (Rns_trans (Rns_1 m0) a) (Rns_1 pd)
                show Rns g k wh _ (_, _, _, _, _, C ++ List.map qc (c1 ++ [(tkW g k e).toNat]))
                simpa [List.append_assoc] using R
          · rename_i qa
            rw [if_neg qa] at m0
            split at h
            · rename_i ql
              cases h
              rw [if_pos ql] at m0
              exact Rns_1 m0
            · rename_i ql
              cases h
              rw [if_neg ql] at m0
              exact Rns_1 m0
theorem sim_all (f : Nat) : SPa g k wh f ∧ SPr g k wh f ∧ SPl g k wh f ∧ SSu g k wh f ∧ SSl g k wh f := by
  induction f with
  | zero => exact ⟨fun op e nb r V C h => by simp [ev] at h, fun op e nb r V C _ h => by simp [ev] at h, fun op e nb r T V C _ _ h => by simp [ev] at h, fun op e nb r V C _ h => by simp [ev] at h, fun op e nb r T V C _ _ _ h => by simp [ev] at h⟩
  | succ f ih =>
    obtain ⟨a, b, c, d, e⟩ := ih
    exact ⟨sim_pa d a, sim_pr a c, sim_pl a c, sim_su b e, sim_sl b e⟩
/-- a sum at no bracket: it is told, or a fault -/
theorem sim_sum {f op e : Nat} {nb : Bool} {C : List Nat} {r : Rz} (h : ev g k wh f 5 op e nb = some r) : match r with
  | .inl (e', nb', cs) => ∃ T C1, Rns g k wh (0, e, nb, op, [], C) (4, e', nb', op, T, C1) ∧ C1 ++ T = C ++ cs.map qc
  | .inr (a, p) => Rns g k wh (0, e, nb, op, [], C) (Flt a p) := by
  have a := (sim_all (g := g) (k := k) (wh := wh) f).2.2.2.1 op e nb r [] C (Or.inl rfl) h
  rcases r with ⟨e', nb', cs⟩ | ⟨p, q⟩
  · obtain ⟨T, C1, a1, a2, a3, a4, a5⟩ := a
    refine ⟨T, C1, Rns_trans a1 (Rns_1 ?_), a3⟩
    have b0 := brk_0 (V := []) a2 (Or.inl rfl)
    rw [List.append_nil] at b0 ⊢
    unfold mst
    dsimp only
    rw [if_neg (by omega), if_neg (by omega), if_pos rfl, b0, if_neg (fun h => by have := h.2; simp [brk] at this), if_neg a4, if_neg a5]
    rfl
  · exact a
end

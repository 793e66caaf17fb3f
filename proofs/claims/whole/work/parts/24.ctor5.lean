/-! MoodBread() -/
/-- the fields of the system -/
abbrev mbC (taped : Int32) (cur spa : Nat) (drawn : Int64) : AC := .inr (11, [.ref 9, .ref 10, .ref 11, .ref 12, .int taped, .ref 13, .ref cur, .ref spa, .ref 41, .ref 44, .ref 49, .ref 54, .ref 55, .ref 157, .ref 170, .long drawn, .ref 172])
abbrev town0 (t : Nat) : List AC := townL t 0 z0 z0 z0 z0 z0 z0 z0 z0 0 z0 z0 z0 5 18 0 0
/-- a fresh system's cells: the row of them ahead of the States of history, the row behind -/
abbrev mbA : List AC := [mbC 0 15 28 1, .inr (10, [.ref 10, .ref 11]), .inr (1, [.ref 11, .int 0]), .inr (6, [.ref 12, .int 0, .int 0, .int 0, .int 0, .int (-1), .int 0, .int 0, .int (-1)]), zI 1600, .inr (0, [.ref 14, .int 0]), zI 1600] ++ town0 15 ++ town0 28 ++ [.inr (5, [.ref 42]), sumsC 43, zI 64] ++ stateL 44 ++ stateL 49
abbrev mbB : List AC := guesL 157 ++ [.inr (4, [.ref 171, .int 0]), zI 97, zI 6]
abbrev rowA (N b i : Nat) : AC := .inl (3, N, .inr (.inr (.inr (.inr (rowS b i)))))
def mbF (f w : Nat → AC) : Prop := (∀ k, k < 8 → w k = f k) ∧ Tr w 8 mbA ∧ w 54 = rowA 9 173 9 ∧ w 55 = .inr (3, [.ref 56, .int 0, .int 0]) ∧ w 56 = rowA 20 57 20 ∧ (∀ i, i < 20 → Tr w (57 + 5 * i) (stateL (57 + 5 * i))) ∧ Tr w 157 mbB ∧ (∀ i, i < 9 → Tr w (173 + 5 * i) (stateL (173 + 5 * i))) ∧ ∀ k, 218 ≤ k → w k = f k
theorem statesL_get (b n i j : Nat) (hi : i < n) (hj : j < 5) : (statesL b n).getD (5 * i + j) junk = (stateL (b + 5 * i)).getD j junk := by
  induction n with
  | zero => omega
  | succ n ih =>
    simp only [statesL, List.getD_eq_getElem?_getD]
    by_cases h : i < n
    · rw [List.getElem?_append_left (by rw [statesL_len]; omega)]
      have := ih h
      simp only [List.getD_eq_getElem?_getD] at this
      exact this
    · have : i = n := by omega
      subst this
      rw [List.getElem?_append_right (by rw [statesL_len]; omega), statesL_len, show 5 * i + j - 5 * i = j by omega]
theorem HH_tr (g : Nat → AC) {r N b n i : Nat} (hi : i < n) : Tr (HH g r N b n) (b + 5 * i) (stateL (b + 5 * i)) := by
  intro j hj
  have hj : j < 5 := hj
  unfold HH
  rw [putL_get _ _ (by omega) (by rw [statesL_len]; omega), show b + 5 * i + j - b = 5 * i + j by omega, statesL_get b n i j hi hj]
theorem HH_hi (g : Nat → AC) {r N b n k : Nat} (h : b + 5 * n ≤ k) (hr : r < b) : HH g r N b n k = g k := by
  unfold HH
  rw [putL_hi _ _ (by rw [statesL_len]; exact h), up_ne _ _ (by omega)]
set_option maxHeartbeats 4000000 in
set_option maxRecDepth 100000 in
theorem s_MB_loop (d z : Nat) (g : Nat → AC) (hga : g 8 = mbC 0 15 28 1) (h1 : g 1 = .inl (5, 5, .inl mof)) : ∀ (m i : Nat) (l : Lo), i + m = 9 → lk l 0 = some (.ref 8) → lk l 1 = some (.int (nI i)) →
    Rn (X (d + 1)) 11 none true 2 cX11_init (176, l, [], (173 + 5 * i, z + 99 * i, HH g 54 9 173 i)) = some (none, (173 + 5 * 9, z + 99 * 9, HH g 54 9 173 9)) := by
  intro m
  induction m with
  | zero =>
    intro i l hi k0 k1
    have : i = 9 := by omega
    subst this
    have hc : Int32.ofNat 9 ≤ nI 9 := Int32.le_refl _
    have e1 : HH g 54 9 173 9 8 = _ := (HH_lo g (by omega) (by omega)).trans hga
    have e2 : HH g 54 9 173 9 54 = _ := HH_r g (N := 9) (i := 9) (by omega)
    rw [Rn_iload_n (k := 1) rfl dX11_init_176]
    simp only [Rn_aload_n (k := 0) rfl dX11_init_177, Rn_getfield fl_11_75 dX11_init_178, Rn_arraylength dX11_init_181, Rn_icmp_ge (t := 204) rfl dX11_init_182, Rn_aload_n (k := 0) rfl dX11_init_185, Rn_getfield fl_11_75 dX11_init_186, Rn_iload_n (k := 1) rfl dX11_init_189, Rn_new cl_11_65 rfl dX11_init_190, Rn_dup_int dX11_init_193, Rn_dup_ref dX11_init_193, Rn_inI0 (d := dX11_init_194) ml_11_67 rfl, Rn_aastore dX11_init_197, Rn_iinc (nL := 2) rfl dX11_init_198, Rn_goto (t := 176) rfl dX11_init_201, Rn_return rfl dX11_init_204, Option.bind_some, Option.bind_none, Nat.reduceAdd, Nat.reduceBEq, Nat.reduceEqDiff, lk_nil, lk_cons, lk_pt1, lk_pt2, lk_pt2b, isJ_i, isJ_r, isJ_l, gI_i, gJ_i, gR_i, Bool.false_eq_true, if_true, if_false, ite_true, ite_false, reduceIte, len4_0, len4_1, len4_2, len4_3, len4_4, Option.toList_some, Option.toList_none, List.cons_append, List.nil_append, gf_o, isO_o, pf_o, List.length_cons, List.length_nil, List.getElem?_cons_zero, List.getElem?_cons_succ, List.set_cons_zero, List.set_cons_succ, va_rf_s, up_self, rdi_a, rdi_5, rdi_0, rdi_4, wri_a, rdl_a, wrl_a, rdr_a, wrr_a, aln_0, aln_1, aln_3, aln_4, aln_5, ofI_1, ofI_m1, k0, k1, e1, e2, hc]
  | succ m ih =>
    intro i l hi k0 k1
    have hlt : i < 9 := by omega
    have hc : ¬ Int32.ofNat 9 ≤ nI i := nI_ge (b := 9) hlt (by decide)
    have hb : 0 ≤ nI i := nI_pos' (by omega)
    have hcl : (nI i).toNatClampNeg = i := nI_clamp (by omega)
    have e1 : HH g 54 9 173 i 8 = _ := (HH_lo g (by omega) (by omega)).trans hga
    have e2 : HH g 54 9 173 i 54 = _ := HH_r g (N := 9) (i := i) (by omega)
    have e := u_State d (173 + 5 * i) (z + 99 * i + 5) (HH g 54 9 173 i) (by omega) ((HH_lo g (by omega) (by omega)).trans h1)
    have := ih (i + 1) (pt1 1 (.int (nI (i + 1))) l) (by omega) (by simp [Option.bind_some, Option.bind_none, Nat.reduceAdd, Nat.reduceBEq, Nat.reduceEqDiff, lk_nil, lk_cons, lk_pt1, lk_pt2, lk_pt2b, isJ_i, isJ_r, isJ_l, gI_i, gJ_i, gR_i, Bool.false_eq_true, if_true, if_false, ite_true, ite_false, reduceIte, len4_0, len4_1, len4_2, len4_3, len4_4, Option.toList_some, Option.toList_none, List.cons_append, List.nil_append, gf_o, isO_o, pf_o, List.length_cons, List.length_nil, List.getElem?_cons_zero, List.getElem?_cons_succ, List.set_cons_zero, List.set_cons_succ, va_rf_s, up_self, rdi_a, rdi_5, rdi_0, rdi_4, wri_a, rdl_a, wrl_a, rdr_a, wrr_a, aln_0, aln_1, aln_3, aln_4, aln_5, ofI_1, ofI_m1, k0]) (by simp [Option.bind_some, Option.bind_none, Nat.reduceAdd, Nat.reduceBEq, Nat.reduceEqDiff, lk_nil, lk_cons, lk_pt1, lk_pt2, lk_pt2b, isJ_i, isJ_r, isJ_l, gI_i, gJ_i, gR_i, Bool.false_eq_true, if_true, if_false, ite_true, ite_false, reduceIte, len4_0, len4_1, len4_2, len4_3, len4_4, Option.toList_some, Option.toList_none, List.cons_append, List.nil_append, gf_o, isO_o, pf_o, List.length_cons, List.length_nil, List.getElem?_cons_zero, List.getElem?_cons_succ, List.set_cons_zero, List.set_cons_succ, va_rf_s, up_self, rdi_a, rdi_5, rdi_0, rdi_4, wri_a, rdl_a, wrl_a, rdr_a, wrr_a, aln_0, aln_1, aln_3, aln_4, aln_5, ofI_1, ofI_m1])
    rw [← this, Rn_iload_n (k := 1) rfl dX11_init_176]
    simp only [Rn_aload_n (k := 0) rfl dX11_init_177, Rn_getfield fl_11_75 dX11_init_178, Rn_arraylength dX11_init_181, Rn_icmp_ge (t := 204) rfl dX11_init_182, Rn_aload_n (k := 0) rfl dX11_init_185, Rn_getfield fl_11_75 dX11_init_186, Rn_iload_n (k := 1) rfl dX11_init_189, Rn_new cl_11_65 rfl dX11_init_190, Rn_dup_int dX11_init_193, Rn_dup_ref dX11_init_193, Rn_inI0 (d := dX11_init_194) ml_11_67 rfl, Rn_aastore dX11_init_197, Rn_iinc (nL := 2) rfl dX11_init_198, Rn_goto (t := 176) rfl dX11_init_201, Rn_return rfl dX11_init_204, Option.bind_some, Option.bind_none, Nat.reduceAdd, Nat.reduceBEq, Nat.reduceEqDiff, lk_nil, lk_cons, lk_pt1, lk_pt2, lk_pt2b, isJ_i, isJ_r, isJ_l, gI_i, gJ_i, gR_i, Bool.false_eq_true, if_true, if_false, ite_true, ite_false, reduceIte, len4_0, len4_1, len4_2, len4_3, len4_4, Option.toList_some, Option.toList_none, List.cons_append, List.nil_append, gf_o, isO_o, pf_o, List.length_cons, List.length_nil, List.getElem?_cons_zero, List.getElem?_cons_succ, List.set_cons_zero, List.set_cons_succ, va_rf_s, up_self, rdi_a, rdi_5, rdi_0, rdi_4, wri_a, rdl_a, wrl_a, rdr_a, wrr_a, aln_0, aln_1, aln_3, aln_4, aln_5, ofI_1, ofI_m1, k0, k1, e1, e2, hc, hb, hcl, hlt, and_self, NXs, e, putL_get0, putL_lo _ _ (show 54 < 173 + 5 * i by omega), HH_next g (show 54 < 173 by omega), nI_1]
    rw [show 173 + 5 * i + 5 = 173 + 5 * (i + 1) by omega, show z + 99 * i + 5 + 94 = z + 99 * (i + 1) by omega]
theorem s_MB_fin (d z : Nat) (f g : Nat → AC) (l : Lo) (k0 : lk l 0 = some (.ref 8)) (k1 : lk l 1 = some (.int 0)) (h1 : g 1 = .inl (5, 5, .inl mof)) (a1 : ∀ k, k < 8 → g k = f k) (a2 : Tr g 8 mbA) (a3 : g 54 = .inl (3, 9, .inr (.inr (.inr (.inr (fun _ => none)))))) (a4 : g 55 = .inr (3, [.ref 56, .int 0, .int 0])) (a5 : g 56 = rowA 20 57 20) (a6 : ∀ i, i < 20 → Tr g (57 + 5 * i) (stateL (57 + 5 * i))) (a7 : Tr g 157 mbB) (a8 : ∀ k, 173 ≤ k → g k = f k) :
    ∃ w, Rn (X (d + 1)) 11 none true 2 cX11_init (176, l, [], (173, z, g)) = some (none, (218, z + 891, w)) ∧ mbF f w := by
  have hg : HH g 54 9 173 0 = g := by
    unfold HH
    have : statesL 173 0 = [] := rfl
    rw [this, putL_nil]
    have : rowS 173 0 = fun _ => none := by
      funext j
      simp [rowS]
    rw [this]
    funext k
    by_cases h : k = 54
    · subst h; rw [up_self, a3]
    · rw [up_ne _ _ h]
  have e := s_MB_loop d z g (a2 0 (by decide)) h1 9 0 l rfl k0 (by rw [k1, nI_0])
  rw [hg] at e
  refine ⟨_, e, fun k hk => ?_, fun i hi => ?_, HH_r g (by omega), ?_, ?_, fun i hi j hj => ?_, fun i hi => ?_, fun i hi => HH_tr g hi, fun k hk => ?_⟩
  · rw [HH_lo g (by omega) (by omega)]; exact a1 k hk
  · have hi2 : i < 46 := hi
    rw [HH_lo g (by omega) (by omega)]; exact a2 i hi
  · rw [HH_lo g (by omega) (by omega)]; exact a4
  · rw [HH_lo g (by omega) (by omega)]; exact a5
  · have hj2 : j < 5 := hj
    rw [HH_lo g (by omega) (by omega)]; exact a6 i hi j hj
  · have hi2 : i < 16 := hi
    rw [HH_lo g (by omega) (by omega)]; exact a7 i hi
  · rw [HH_hi g (by omega) (by omega)]; exact a8 k (by omega)

/-! THE WORLD: the other calls that change it -/
section
variable {n z : Nat} {H : Nat → AC} {M M1 M2 : Me} {T : TT} {s s' : Ss} {hs hs' : List Ss} {Nn : Nat → Nat → List Nat} {R R' : Nat} {f f' : Int → Int} {k k' : Nat} {g g' : Int → Int} {fa fb x fa' fb' x' : Int} {v v' : Int → Int} {B B' : List Int}
theorem wf_onS {q : Int} (wT : wfT T) (hb : Byt g 1600) (hk : q ≤ 1600) (h : onOk T g q) : wfS T (onS T g) := by
  obtain ⟨h1, h2, -, h4, h5⟩ := h
  obtain ⟨wm, wp, wl, -⟩ := wT
  have a0 : 0 ≤ onA T := by
    unfold onA
    exact Int.mul_nonneg (by omega) (by omega)
  have b0 : 0 ≤ onB T := by
    unfold onB
    exact Int.mul_nonneg (by omega) (by omega)
  have g0 := hb 0 (by omega) (by omega)
  have g1 := hb 1 (by omega) (by omega)
  have inA : ∀ p m : Int, 0 ≤ p → p < np T → 0 ≤ m → m < nm T → 0 ≤ nm T * p + m ∧ 2 * (nm T * p + m) + 2 ≤ onA T := fun p m p0 p1 m0 m1 => by
    have e1 : (nm T : Int) * p + nm T ≤ nm T * np T := by
      have := Int.mul_le_mul_of_nonneg_left (show p + 1 ≤ (np T : Int) by omega) (show (0 : Int) ≤ nm T by omega)
      rw [Int.mul_add, Int.mul_one] at this
      exact this
    have e2 : 0 ≤ (nm T : Int) * p := Int.mul_nonneg (by omega) p0
    have e3 : onA T = 2 * (nm T * np T) := by unfold onA; rw [Int.mul_assoc]
    omega
  have inB : ∀ l m : Int, 0 ≤ l → l < nl T → 0 ≤ m → m ≤ nm T → 0 ≤ (1 + nm T) * l + m ∧ (1 + nm T) * l + m < onB T := fun l m l0 l1 m0 m1 => by
    have e1 : (1 + (nm T : Int)) * l + (1 + nm T) ≤ (1 + nm T) * nl T := by
      have := Int.mul_le_mul_of_nonneg_left (show l + 1 ≤ (nl T : Int) by omega) (show (0 : Int) ≤ 1 + nm T by omega)
      rw [Int.mul_add, Int.mul_one] at this
      exact this
    have e2 : 0 ≤ (1 + (nm T : Int)) * l := Int.mul_nonneg (by omega) l0
    have e3 : onB T = (1 + nm T) * nl T := rfl
    omega
  refine ⟨⟨by show 0 ≤ 256 * g 0 + g 1; omega, h2⟩, fun p m p0 p1 m0 m1 => ?_, fun l m l0 l1 m0 m1 => ?_, fun l l0 l1 => ?_⟩
  · obtain ⟨i0, i1⟩ := inA p m p0 p1 m0 m1
    show (0 ≤ g (2 + 2 * (nm T * p + m)) ∧ g (2 + 2 * (nm T * p + m)) ≤ 99) ∧ 0 ≤ g (3 + 2 * (nm T * p + m)) ∧ g (3 + 2 * (nm T * p + m)) ≤ 99
    exact ⟨⟨(hb _ (by omega) (by omega)).1, h4 _ (by omega) (by omega)⟩, (hb _ (by omega) (by omega)).1, h4 _ (by omega) (by omega)⟩
  · obtain ⟨i0, i1⟩ := inB l (1 + m) l0 l1 (by omega) (by omega)
    have hK := (h5 ((1 + nm T) * l + (1 + m)) (by omega) (by omega)).2 (by
      rw [Int.add_comm, Int.add_mul_emod_self_left, Int.emod_eq_of_lt (by omega) (by omega)]
      omega)
    show 0 ≤ g (2 + onA T + ((1 + nm T) * l + 1 + m)) ∧ g (2 + onA T + ((1 + nm T) * l + 1 + m)) ≤ 99
    rw [show (1 + (nm T : Int)) * l + 1 + m = (1 + nm T) * l + (1 + m) by omega]
    exact ⟨(hb _ (by omega) (by omega)).1, hK⟩
  · obtain ⟨i0, i1⟩ := inB l 0 l0 l1 (by omega) (by omega)
    rw [Int.add_zero] at i0 i1
    exact (h5 ((1 + nm T) * l) i0 i1).1 (Int.mul_emod_right _ _)
theorem FQ_uniq {p a b y z' y2 z2 : Int} (h : FQ g k T p a b y z') (h' : FQ g k T p a b y2 z2) : y2 = y ∧ z2 = z' := by
  unfold FQ at h h'
  by_cases q : 0 ≤ p ∧ p < np T
  · rw [if_pos q] at h h'
    rcases hq : quF g k with w | w
    · rw [hq] at h h'
      exact ⟨h'.1.trans h.1.symm, h'.2.trans h.2.symm⟩
    · rw [hq] at h h'
      exact ⟨h'.1.trans h.1.symm, h'.2.trans h.2.symm⟩
  · rw [if_neg q] at h h'
    exact ⟨h'.1.trans h.1.symm, h'.2.trans h.2.symm⟩
end
section
variable {n z : Nat} {H : Nat → AC} {M : Me}
theorem w_days (hH : Hk H) (h : World M) {w : Int} (w_0 : -2147483648 ≤ w) (w_1 : w < 2147483648) : Pair n z H 111 229 [.ref 8, .int (jI w)] [.ref 218, .int (jI w)] M := by
  obtain ⟨T, s, hs, Nn, R, f, k, g, fa, fb, x, v, B, hC, hD, hP⟩ := h
  obtain ⟨wT, wS, wH, wN, wF, wk, wb, wx, wB⟩ := id hP
  obtain ⟨t, t', hB, c2, c3, c4, c5, c6, c7, c8, c9, c10, c11⟩ := id hC
  by_cases q : 1 ≤ w ∧ w ≤ 20 ∧ sh s + 24 * w ≤ 9999
  · obtain ⟨M1, e1, A1, A2, A3, e, e8⟩ := c_days_t (n := n) (z := z) hH hB c2 wT wS q (by omega) (by omega) 92
    have hD1 := WD_side hD (fun b hb => e b (by omega))
    obtain ⟨x1, x2, x3, x4, x5, x6, x7, x8, x9, x10, x11⟩ := id hD1
    obtain ⟨M2, e2, D1, D2, D3, ee, ee8⟩ := r_days_t (n := n) (z := z) (H := H) hD1.1 hD1.2.1 wT wS q (by omega) (by omega) 91
    have ht := hB.2.1
    have t9 := a9 ht
    rw [c9] at A1 A3
    rw [x8] at D1 D3
    have wd := wf_days (x := x) wT wS wx (k := w.toNat) (by omega)
    have hC1 : WC M1 T (daysF T s x w.toNat).1 (hsK s hs) Nn R f k g fa fb (daysF T s x w.toNat).2 v B := ⟨t, t', A1, A2, NmC_fr c3 (e _ (by omega)), SNC_frame c4 (by rw [e 157 (by omega)]) (e 166 (by omega)), by rw [e8 7 (by omega)]; exact c5, by rw [e8 4 (by omega)]; exact c6, by rw [e 12 (by omega)]; exact c7, by rw [e 11 (by omega)]; exact c8, A3, by rw [e 172 (by omega)]; exact c10, LSq_frame c11 (by rw [e 170 (by omega)]) (e 171 (by omega))⟩
    have hD2 : WD M2 T (daysF T s x w.toNat).1 (hsK s hs) Nn R f k g fa fb (daysF T s x w.toNat).2 v B := ⟨D1, D2, NmR_fr x3 (ee 251 (by omega)), SNR_frame x4 (ee8 66 (by omega)) (ee 264 (by omega)), by rw [ee8 1 (by omega)]; exact x5, by rw [ee 219 (by omega)]; exact x6, by rw [ee8 7 (by omega), ee8 8 (by omega)]; exact x7, D3, by rw [ee 220 (by omega)]; exact x9, LSq_frame x10 (ee8 102 (by omega)) (ee 291 (by omega)), WK_cell x11 (fun b hb => ee b (by omega))⟩
    exact both e1 e2 (fun b hb => ee b (by omega)) hC1 hD2 ⟨wT, wd.1, hsK_wf wS wH, wN, wF, wk, wb, wd.2.2, wB⟩
  ·
    have e1 := c_days_f (n := n) (z := z) (H := H) hB wT wS w_0 w_1 q 92
    have hC1 := WC_no hC (c := 2) (by omega) (by omega)
    have hD1 := WD_side (M' := st M 172 2 (M 172 2 + 1)) hD (fun b hb => st_ne _ _ _ (by omega))
    have e2 := r_days_f (n := n) (z := z) (H := H) hD1.1 wT wS w_0 w_1 q 91
    exact both e1 e2 (fun b hb => st_ne _ _ _ (by omega)) hC1 (WD_no hD1 wT (by omega) (by omega)) hP
theorem w_undo (hH : Hk H) (h : World M) : Pair n z H 112 221 [.ref 8] [.ref 218] M := by
  obtain ⟨T, s, hs, Nn, R, f, k, g, fa, fb, x, v, B, hC, hD, hP⟩ := h
  obtain ⟨wT, wS, wH, wN, wF, wk, wb, wx, wB⟩ := id hP
  obtain ⟨t, t', hB, c2, c3, c4, c5, c6, c7, c8, c9, c10, c11⟩ := id hC
  cases hs with
  | nil =>
    have e1 := c_undo_f (n := n) (z := z) (H := H) (M := M) c2.1.1 94
    have hC1 := WC_no hC (c := 3) (by omega) (by omega)
    have hD1 := WD_side (M' := st M 172 3 (M 172 3 + 1)) hD (fun b hb => st_ne _ _ _ (by omega))
    have e2 := r_undo_f (n := n) (z := z) (H := H) (M := st M 172 3 (M 172 3 + 1)) hD1.2.1.1.1 99
    exact both e1 e2 (fun b hb => st_ne _ _ _ (by omega)) hC1 (WD_no hD1 wT (by omega) (by omega)) hP
  | cons y hs =>
    obtain ⟨M1, e1, A1, A2, e⟩ := c_undo_t (n := n) (z := z) (H := H) hB c2 wT 94
    have hD1 := WD_side hD (fun b hb => e b (by omega))
    obtain ⟨x1, x2, x3, x4, x5, x6, x7, x8, x9, x10, x11⟩ := id hD1
    obtain ⟨M2, e2, D1, D2, ee, ee8⟩ := r_undo_t (n := n) (z := z) (H := H) hD1.1 hD1.2.1 wT 99
    have ht := hB.2.1
    have t9 := a9 ht
    obtain ⟨b1, b2, b3, b4, b5, b6⟩ := id hB
    have hC1 : WC M1 T y hs Nn R f k g fa fb x v B := ⟨t, t', ⟨by rw [e 8 (by omega)]; exact b1, b2, TR_keep b3 (fun b _ _ => e b (by omega)), A1, SuK_fr b5 (e _ (by omega)), SuK_fr b6 (e _ (by omega))⟩, A2, NmC_fr c3 (e _ (by omega)), SNC_frame c4 (by rw [e 157 (by omega)]) (e 166 (by omega)), by rw [e 8 (by omega)]; exact c5, by rw [e 8 (by omega)]; exact c6, by rw [e 12 (by omega)]; exact c7, by rw [e 11 (by omega)]; exact c8, by rw [e 8 (by omega)]; exact c9, by rw [e 172 (by omega)]; exact c10, LSq_frame c11 (by rw [e 170 (by omega)]) (e 171 (by omega))⟩
    have hD2 : WD M2 T y hs Nn R f k g fa fb x v B := ⟨⟨RT_keep x1.1 (fun b hb => ee b (by omega)), D1⟩, D2, NmR_fr x3 (ee 251 (by omega)), SNR_frame x4 (ee8 66 (by omega)) (ee 264 (by omega)), by rw [ee8 1 (by omega)]; exact x5, by rw [ee 219 (by omega)]; exact x6, by rw [ee8 7 (by omega), ee8 8 (by omega)]; exact x7, by rw [ee8 65 (by omega)]; exact x8, by rw [ee 220 (by omega)]; exact x9, LSq_frame x10 (ee8 102 (by omega)) (ee 291 (by omega)), WK_cell x11 (fun b hb => ee b (by omega))⟩
    exact both e1 e2 (fun b hb => ee b (by omega)) hC1 hD2 ⟨wT, wH y (List.mem_cons_self ..), fun w hw => wH w (List.mem_cons_of_mem _ hw), wN, wF, wk, wb, wx, wB⟩
theorem w_seed (hH : Hk H) (h : World M) {w : Int} (w_0 : -2147483648 ≤ w) (w_1 : w < 2147483648) : Pair n z H 113 226 [.ref 8, .int (jI w)] [.ref 218, .int (jI w)] M := by
  obtain ⟨T, s, hs, Nn, R, f, k, g, fa, fb, x, v, B, hC, hD, hP⟩ := h
  obtain ⟨wT, wS, wH, wN, wF, wk, wb, wx, wB⟩ := id hP
  obtain ⟨t, t', hB, c2, c3, c4, c5, c6, c7, c8, c9, c10, c11⟩ := id hC
  have e1 := c_seed (n := n) (z := z) (H := H) (M := M) (d := 97) w_0 w_1
  by_cases q : w < 0
  · rw [if_pos q, if_pos q] at e1
    have hC1 := WC_no hC (c := 4) (by omega) (by omega)
    have hD1 := WD_side (M' := st M 172 4 (M 172 4 + 1)) hD (fun b hb => st_ne _ _ _ (by omega))
    have e2 := r_seed (n := n) (z := z) (H := H) (M := st M 172 4 (M 172 4 + 1)) (d := 97) w_0 w_1
    rw [if_pos q, if_pos q] at e2
    exact both e1 e2 (fun b hb => st_ne _ _ _ (by omega)) hC1 (WD_no hD1 wT (by omega) (by omega)) hP
  · rw [if_neg q, if_neg q] at e1
    have b5 := hB.2.2.2.2.1
    have b6 := hB.2.2.2.2.2
    have hC1 : WC (st M 8 15 w) T s hs Nn R f k g fa fb w v B := WC_re hC (fun b hb => st_ne _ _ _ (by omega)) (fun i hi => by rw [st_self, su_ne _ _ (by omega)]) (by rw [st_ne _ _ _ (by omega)]) (SuK_fr b5 (st_ne _ _ _ (by omega))) (SuK_fr b6 (st_ne _ _ _ (by omega))) (by rw [st_self, su_ne _ _ (by omega)]; exact c6) (by rw [st_ne _ _ _ (by omega)]; exact c7) (by rw [st_ne _ _ _ (by omega)]; exact c8) (by rw [st_self, su_self]) (fun i i0 i1 => by rw [st_ne _ _ _ (by omega)]; exact c10 i i0 i1) (LSq_frame c11 (by rw [st_ne _ _ _ (by omega)]) (st_ne _ _ _ (by omega)))
    have hD1 := WD_side (M' := st M 8 15 w) hD (fun b hb => st_ne _ _ _ (by omega))
    obtain ⟨x1, x2, x3, x4, x5, x6, x7, x8, x9, x10, x11⟩ := id hD1
    have e2 := r_seed (n := n) (z := z) (H := H) (M := st M 8 15 w) (d := 97) w_0 w_1
    rw [if_neg q, if_neg q] at e2
    have hD2 : WD (st (st M 8 15 w) 218 65 w) T s hs Nn R f k g fa fb w v B := WD_re hD1 (fun b hb => st_ne _ _ _ (by omega)) (fun i hi => by rw [st_self, su_ne _ _ (by omega)]) wT (fun i _ _ => by rw [st_ne _ _ _ (by omega)]) (by rw [st_self, su_ne _ _ (by omega)]; exact x5) (by rw [st_ne _ _ _ (by omega)]; exact x6) (by rw [st_self, su_ne _ _ (by omega), su_ne _ _ (by omega)]; exact x7) (by rw [st_self, su_self]) (fun i i0 i1 => by rw [st_ne (st M 8 15 w) _ _ (show ¬ 220 = 218 by omega)]; exact x9 i i0 i1) (LSq_frame x10 (by rw [st_self, su_ne _ _ (by omega)]) (st_ne _ _ _ (by omega)))
    exact both e1 e2 (fun b hb => st_ne _ _ _ (by omega)) hC1 hD2 ⟨wT, wS, wH, wN, wF, wk, wb, by omega, wB⟩
theorem w_see (hH : Hk H) (h : World M) : Pair n z H 114 230 [.ref 8] [.ref 218] M := by
  obtain ⟨T, s, hs, Nn, R, f, k, g, fa, fb, x, v, B, hC, hD, hP⟩ := h
  obtain ⟨wT, wS, wH, wN, wF, wk, wb, wx, wB⟩ := id hP
  obtain ⟨t, t', hB, c2, c3, c4, c5, c6, c7, c8, c9, c10, c11⟩ := id hC
  obtain ⟨a1, a2⟩ := c_see (n := n) (z := z) (H := H) (M := M) hB wT (by rw [c7]; exact wb) (by omega) (by omega) 98
  rw [c7, c6] at a1
  rw [c7, c6] at a2
  have b5 := hB.2.2.2.2.1
  have b6 := hB.2.2.2.2.2
  by_cases q : seeOk T g (k : Nat)
  · have e1 := a1 q
    rw [Int.toNat_natCast] at e1
    obtain ⟨⟨q1, q2, q3⟩, q4⟩ := id q
    have ek : ((k / 4 : Nat) : Int) = (k : Int) / 4 := by omega
    have hD1 := WD_side (M' := st (st (setc M 166 (rowF 0 g k (M 166))) 157 3 ((k : Nat) / 4)) 8 4 0) hD (fun b hb => by rw [st_ne _ _ _ (by omega), st_ne _ _ _ (by omega), setc_ne _ _ (by omega)])
    obtain ⟨x1, x2, x3, x4, x5, x6, x7, x8, x9, x10, x11⟩ := id hD1
    have e2 := (r_see (n := n) (z := z) (H := H) hD1.1 wT (by rw [x6]; exact wb) (by omega) (by omega) 97).1 (by rw [x5, x6]; exact q)
    rw [x5, x6, Int.toNat_natCast] at e2
    have ht := hB.2.1
    have t9 := a9 ht
    obtain ⟨b1, b2, b3, b4, -, -⟩ := id hB
    have e : ∀ b, ¬ (b = 8 ∨ b = 157 ∨ b = 166) → st (st (setc M 166 (rowF 0 g k (M 166))) 157 3 ((k : Nat) / 4)) 8 4 0 b = M b := fun b hb => by rw [st_ne _ _ _ (by omega), st_ne _ _ _ (by omega), setc_ne _ _ (by omega)]
    have e8 : ∀ i, ¬ i = 4 → st (st (setc M 166 (rowF 0 g k (M 166))) 157 3 ((k : Nat) / 4)) 8 4 0 8 i = M 8 i := fun i hi => by rw [st_self, su_ne _ _ hi, st_ne _ _ _ (by omega), setc_ne _ _ (by omega)]
    have hC1 : WC (st (st (setc M 166 (rowF 0 g k (M 166))) 157 3 ((k : Nat) / 4)) 8 4 0) T s hs Nn (k / 4) g 0 g fa fb x v B := ⟨t, t', ⟨by rw [e8 6 (by omega)]; exact b1, b2, TR_keep b3 (fun b _ _ => e b (by omega)), SR_keep b4 (fun b _ _ => e b (by omega)), SuK_fr b5 (e _ (by omega)), SuK_fr b6 (e _ (by omega))⟩, HC_frame c2 (fun b hb => e b (by omega)), NmC_fr c3 (e _ (by omega)), ⟨⟨by rw [st_ne _ _ _ (by omega), st_self, su_self]; exact ek.symm, by omega⟩, fun i i0 i1 => by rw [st_ne _ _ _ (by omega), st_ne _ _ _ (by omega), setc_self, rowF_in i0 (by omega)]⟩, by rw [e8 7 (by omega)]; exact c5, by rw [st_self, su_self]; rfl, by rw [e 12 (by omega)]; exact c7, by rw [e 11 (by omega)]; exact c8, by rw [e8 15 (by omega)]; exact c9, by rw [e 172 (by omega)]; exact c10, LSq_frame c11 (by rw [e 170 (by omega)]) (e 171 (by omega))⟩
    generalize hM1 : st (st (setc M 166 (rowF 0 g k (M 166))) 157 3 ((k : Nat) / 4)) 8 4 0 = M1 at *
    have ee : ∀ b, ¬ (b = 218 ∨ b = 264) → st (setc (st M1 218 1 0) 264 (rowF 0 g k (M1 264))) 218 66 ((k : Nat) / 4) b = M1 b := fun b hb => by rw [st_ne _ _ _ (by omega), setc_ne _ _ (by omega), st_ne _ _ _ (by omega)]
    have ee8 : ∀ i, ¬ (i = 1 ∨ i = 66) → st (setc (st M1 218 1 0) 264 (rowF 0 g k (M1 264))) 218 66 ((k : Nat) / 4) 218 i = M1 218 i := fun i hi => by rw [st_self, su_ne _ _ (by omega), setc_ne _ _ (by omega), st_self, su_ne _ _ (by omega)]
    have hD2 : WD (st (setc (st M1 218 1 0) 264 (rowF 0 g k (M1 264))) 218 66 ((k : Nat) / 4)) T s hs Nn (k / 4) g 0 g fa fb x v B := ⟨⟨RT_keep x1.1 (fun b hb => ee b (by omega)), by rw [ee 259 (by omega)]; exact x1.2⟩, HR_frame x2 (ee 263 (by omega)) (ee8 63 (by omega)) (ee8 64 (by omega)), NmR_fr x3 (ee 251 (by omega)), ⟨⟨by rw [st_self, su_self]; exact ek.symm, by omega⟩, fun i i0 i1 => by rw [st_ne _ _ _ (by omega), setc_self, rowF_in i0 (by omega)]⟩, by rw [st_self, su_ne _ _ (by omega), setc_ne _ _ (by omega), st_self, su_self]; rfl, by rw [ee 219 (by omega)]; exact x6, by rw [ee8 7 (by omega), ee8 8 (by omega)]; exact x7, by rw [ee8 65 (by omega)]; exact x8, by rw [ee 220 (by omega)]; exact x9, LSq_frame x10 (ee8 102 (by omega)) (ee 291 (by omega)), WK_cell x11 (fun b hb => ee b (by omega))⟩
    refine both e1 e2 (fun b hb => ee b (by omega)) hC1 hD2 ⟨wT, wS, wH, wN, fun r hr => ?_, by omega, wb, wx, wB⟩
    obtain ⟨y1, y2, y3, y4⟩ := q4 r (by omega)
    have z1 := wb (4 * r) (by omega) (by omega)
    have z2 := wb (4 * r + 1) (by omega) (by omega)
    have z3 := wb (4 * r + 2) (by omega) (by omega)
    have z4 := wb (4 * r + 3) (by omega) (by omega)
    omega
  · have e1 := a2 q
    have hC1 := WC_no (WC_k hC (w := 0)) (c := 1) (by omega) (by omega)
    have ey : ∀ c, st M 8 4 c 172 = M 172 := fun c => st_ne _ _ _ (by omega)
    rw [ey] at hC1
    have hD1 := WD_side (M' := st (st M 8 4 0) 172 1 (M 172 1 + 1)) hD (fun b hb => by rw [st_ne _ _ _ (by omega), st_ne _ _ _ (by omega)])
    obtain ⟨x1, x2, x3, x4, x5, x6, x7, x8, x9, x10, x11⟩ := id hD1
    have e2 := (r_see (n := n) (z := z) (H := H) hD1.1 wT (by rw [x6]; exact wb) (by omega) (by omega) 97).2 (by rw [x5, x6]; exact q)
    have hD2 := WD_no (WD_k hD1 wT (w := 0)) wT (c := 1) (by omega) (by omega)
    have ey2 : ∀ (M1 : Me) c, st M1 218 1 c 220 = M1 220 := fun M1 c => st_ne _ _ _ (by omega)
    rw [ey2] at hD2
    exact both e1 e2 (fun b hb => by rw [st_ne _ _ _ (by omega), st_ne _ _ _ (by omega)]) hC1 hD2 (WP_k hP (by omega))
end

/-! THE WORLD: image, on, ask, town -/
theorem RC_okW {M M' : Me} {w : Int} {cs : List Nat} (w0 : 0 ≤ w) (h : RC M w cs) (e : ∀ b i, ¬ okW b i → ¬ (b = 218 ∨ b = 220) → M' b i = M b i) : RC M' w cs := by
  have e6 := e 256 (8 + w) (noW_256 (by omega)) (by omega)
  have e7 := e 257 (8 + w) (noW_257 (by omega)) (by omega)
  rcases h with ⟨a, b⟩ | ⟨a, b0, b1, b2, b3⟩
  · exact Or.inl ⟨a, by rw [e6]; exact b⟩
  · refine Or.inr ⟨a, by rw [e6]; exact b0, by rw [e6, e7]; exact b1, by rw [e7]; exact b2, ?_⟩
    rw [e6]
    exact cdM_congr (fun j j0 j1 => e 258 j (noW_258 (by omega)) (by omega)) b3
theorem RT_okW {M M' : Me} {T : TT} (h : RT M T) (e : ∀ b i, ¬ okW b i → ¬ (b = 218 ∨ b = 220) → M' b i = M b i) : RT M' T := by
  obtain ⟨⟨a1, a2, a3, a4, a5⟩, b, c, ⟨d1, d2, d3⟩, r1, r2, r3⟩ := h
  refine ⟨⟨?_, ?_, ?_, ?_, ?_⟩, fun l l0 l1 => ?_, fun j j0 j1 => ⟨?_, ?_, ?_⟩, ⟨?_, ?_, ?_⟩, fun h => RC_okW (by omega) (r1 h) e, fun h => RC_okW (by omega) (r2 h) e, fun j hj => RC_okW (by omega) (r3 j hj) e⟩
  · rw [e 250 _ (noW_250 (by omega)) (by omega)]; exact a1
  · rw [e 250 _ (noW_250 (by omega)) (by omega)]; exact a2
  · rw [e 250 _ (noW_250 (by omega)) (by omega)]; exact a3
  · rw [e 250 _ (noW_250 (by omega)) (by omega)]; exact a4
  · rw [e 250 _ (noW_250 (by omega)) (by omega)]; exact a5
  · rw [e 253 _ (noW_253 (by omega)) (by omega)]; exact b l l0 l1
  · rw [e 254 _ (noW_254 (by omega)) (by omega)]; exact (c j j0 j1).1
  · rw [e 254 _ (noW_254 (by omega)) (by omega)]; exact (c j j0 j1).2.1
  · rw [e 254 _ (noW_254 (by omega)) (by omega)]; exact (c j j0 j1).2.2
  · rw [e 255 _ (noW_255 (by omega)) (by omega)]; exact d1
  · rw [e 255 _ (noW_255 (by omega)) (by omega)]; exact d2
  · rw [e 255 _ (noW_255 (by omega)) (by omega)]; exact d3
section
variable {n z : Nat} {H : Nat → AC} {M : Me}
theorem w_image (hH : Hk H) (h : World M) : Pair n z H 118 269 [.ref 8] [.ref 218] M := by
  obtain ⟨T, s, hs, Nn, R, f, k, g, fa, fb, x, v, B, hC, hD, hP⟩ := h
  obtain ⟨wT, wS, wH, wN, wF, wk, wb, wx, wB⟩ := id hP
  obtain ⟨t, t', hB, c2, c3, c4, c5, c6, c7, c8, c9, c10, c11⟩ := id hC
  obtain ⟨M1, e1, A1, e⟩ := c_image (n := n) (z := z) (H := H) hB wT wS 97
  have b5 := hB.2.2.2.2.1
  have b6 := hB.2.2.2.2.2
  have hC1 : WC M1 T s hs Nn R f k g fa fb x v (imgF T s) := WC_re hC (fun b hb => e b (by omega)) (fun i hi => by rw [e 8 (by omega)]) (by rw [e 157 (by omega)]) (SuK_fr b5 (e _ (by omega))) (SuK_fr b6 (e _ (by omega))) (by rw [e 8 (by omega)]; exact c6) (by rw [e 12 (by omega)]; exact c7) (by rw [e 11 (by omega)]; exact c8) (by rw [e 8 (by omega)]; exact c9) (fun i i0 i1 => by rw [e 172 (by omega)]; exact c10 i i0 i1) A1
  have hD1 := WD_side hD (fun b hb => e b (by omega))
  obtain ⟨x1, x2, x3, x4, x5, x6, x7, x8, x9, x10, x11⟩ := id hD1
  obtain ⟨M2, e2, A2, ee, ee8⟩ := r_image (n := n) (z := z) (H := H) hD1.1 wT wS 97
  have hD2 : WD M2 T s hs Nn R f k g fa fb x v (imgF T s) := WD_re hD1 (fun b hb => ee b (by omega)) (fun i hi => ee8 i (by omega)) wT (fun i _ _ => by rw [ee 259 (by omega)]) (by rw [ee8 1 (by omega)]; exact x5) (by rw [ee 219 (by omega)]; exact x6) (by rw [ee8 7 (by omega), ee8 8 (by omega)]; exact x7) (by rw [ee8 65 (by omega)]; exact x8) (fun i i0 i1 => by rw [ee 220 (by omega)]; exact x9 i i0 i1) A2
  have hl : (imgF T s).length ≤ 97 := by
    have := imB_len wT s
    unfold imgF
    simp
    omega
  exact both e1 e2 (fun b hb => ee b (by omega)) hC1 hD2 ⟨wT, wS, wH, wN, wF, wk, wb, wx, hl⟩
theorem w_on (hH : Hk H) (h : World M) : Pair n z H 120 273 [.ref 8] [.ref 218] M := by
  obtain ⟨T, s, hs, Nn, R, f, k, g, fa, fb, x, v, B, hC, hD, hP⟩ := h
  obtain ⟨wT, wS, wH, wN, wF, wk, wb, wx, wB⟩ := id hP
  obtain ⟨t, t', hB, c2, c3, c4, c5, c6, c7, c8, c9, c10, c11⟩ := id hC
  have ht := hB.2.1
  have t9 := a9 ht
  obtain ⟨b1, b2, b3, b4, b5, b6⟩ := id hB
  by_cases q : onOk T g (k : Nat)
  · obtain ⟨M1, e1, A1, e, e4, e8, e55, e55'⟩ := c_on_t (n := n) (z := z) (H := H) (M := M) hB wT (by rw [c7]; exact wb) (by omega) (by omega) (by rw [c6, c7]; exact q) 96
    rw [c7] at A1
    have hC1 : WC M1 T (onS T g) [] Nn R f 0 g fa fb x v B := ⟨t, t', ⟨by rw [e8 6 (by omega)]; exact b1, b2, TR_keep b3 (fun b _ _ => e b (by omega)), A1, SuK_fr b5 (e _ (by omega)), SuK_fr b6 (e _ (by omega))⟩, ⟨⟨e55, by simp⟩, by rw [e55' 1 (by omega)]; exact c2.2.1, fun j y hj => by simp at hj⟩, NmC_fr c3 (e _ (by omega)), SNC_frame c4 (by rw [e 157 (by omega)]) (e 166 (by omega)), by rw [e8 7 (by omega)]; exact c5, e4, by rw [e 12 (by omega)]; exact c7, by rw [e 11 (by omega)]; exact c8, by rw [e8 15 (by omega)]; exact c9, by rw [e 172 (by omega)]; exact c10, LSq_frame c11 (by rw [e 170 (by omega)]) (e 171 (by omega))⟩
    have hD1 := WD_side hD (fun b hb => e b (by omega))
    obtain ⟨x1, x2, x3, x4, x5, x6, x7, x8, x9, x10, x11⟩ := id hD1
    obtain ⟨M2, e2, A2, ee, ee1, ee63, ee8⟩ := r_on_t (n := n) (z := z) (H := H) (M := M1) hD1.1 wT (by rw [x6]; exact wb) (by omega) (by omega) (by rw [x5, x6]; exact q) 96
    rw [x6] at A2
    have hD2 : WD M2 T (onS T g) [] Nn R f 0 g fa fb x v B := ⟨⟨RT_keep x1.1 (fun b hb => ee b (by omega)), A2⟩, ⟨⟨ee63, by simp⟩, by rw [ee8 64 (by omega)]; exact x2.2.1, fun j y hj => by simp at hj⟩, NmR_fr x3 (ee 251 (by omega)), SNR_frame x4 (ee8 66 (by omega)) (ee 264 (by omega)), ee1, by rw [ee 219 (by omega)]; exact x6, by rw [ee8 7 (by omega), ee8 8 (by omega)]; exact x7, by rw [ee8 65 (by omega)]; exact x8, by rw [ee 220 (by omega)]; exact x9, LSq_frame x10 (ee8 102 (by omega)) (ee 291 (by omega)), WK_cell x11 (fun b hb => ee b (by omega))⟩
    exact both e1 e2 (fun b hb => ee b (by omega)) hC1 hD2 ⟨wT, wf_onS wT wb (by omega) q, fun y hy => by simp at hy, wN, wF, by omega, wb, wx, wB⟩
  · have e1 := c_on_f (n := n) (z := z) (H := H) (M := M) hB wT (by rw [c7]; exact wb) (by omega) (by omega) (by rw [c6, c7]; exact q) 96
    have hC1 := WC_no (WC_k hC (w := 0)) (c := 5) (by omega) (by omega)
    have ey : ∀ c, st M 8 4 c 172 = M 172 := fun c => st_ne _ _ _ (by omega)
    rw [ey] at hC1
    have hD1 := WD_side (M' := st (st M 8 4 0) 172 5 (M 172 5 + 1)) hD (fun b hb => by rw [st_ne _ _ _ (by omega), st_ne _ _ _ (by omega)])
    obtain ⟨x1, x2, x3, x4, x5, x6, x7, x8, x9, x10, x11⟩ := id hD1
    have e2 := r_on_f (n := n) (z := z) (H := H) (M := st (st M 8 4 0) 172 5 (M 172 5 + 1)) hD1.1 wT (by rw [x6]; exact wb) (by omega) (by omega) (by rw [x5, x6]; exact q) 96
    have hD2 := WD_no (WD_k hD1 wT (w := 0)) wT (c := 5) (by omega) (by omega)
    have ey2 : ∀ (M1 : Me) c, st M1 218 1 c 220 = M1 220 := fun M1 c => st_ne _ _ _ (by omega)
    rw [ey2] at hD2
    exact both e1 e2 (fun b hb => by rw [st_ne _ _ _ (by omega), st_ne _ _ _ (by omega)]) hC1 hD2 (WP_k hP (by omega))
theorem w_ask (hW : Hw H) (hH : Hk H) (h : World M) {w : Int} (w_0 : -2147483648 ≤ w) (w_1 : w < 2147483648) : PairL n z H 117 266 [.ref 8, .int (jI w)] [.ref 218, .int (jI w)] M := by
  obtain ⟨T, s, hs, Nn, R, f, k, g, fa, fb, x, v, B, hC, hD, hP⟩ := h
  obtain ⟨wT, wS, wH, wN, wF, wk, wb, wx, wB⟩ := id hP
  obtain ⟨t, t', hB, c2, c3, c4, c5, c6, c7, c8, c9, c10, c11⟩ := id hC
  obtain ⟨M1, e1, ⟨K1, K2, K3, K4, K5, K6⟩, F1⟩ := s_ask (n := n) (z := z) hW hH hB wT wS (k := k) (by rw [c7]; exact fun i i0 i1 => wb i i0 (by omega)) wk c6 w_0 w_1 23
  rw [c7] at e1 F1
  rw [c8.1, c8.2] at F1
  have e : ∀ b, ¬ (b = 8 ∨ b = 10 ∨ b = 11 ∨ b = 13 ∨ b = 14 ∨ b = 42 ∨ b = 43 ∨ (49 ≤ b ∧ b ≤ 53) ∨ (157 ≤ b ∧ b ≤ 165) ∨ (167 ≤ b ∧ b ≤ 169) ∨ (173 ≤ b ∧ b ≤ 217)) → M1 b = M b := fun b hb => K1 b (fun q => by
    rcases q with q | q
    · unfold Jc at q; omega
    · omega)
  have hC1 : WC M1 T s hs Nn R f 0 g (M1 11 7) (M1 11 8) x v B := WC_re hC (fun b hb => e b (by omega)) (fun i hi => K5 i (by omega)) K2 K3 K4 K6 (by rw [e 12 (by omega)]; exact c7) ⟨rfl, rfl⟩ (by rw [K5 15 (by omega)]; exact c9) (fun i i0 i1 => by rw [e 172 (by omega)]; exact c10 i i0 i1) (LSq_frame c11 (by rw [e 170 (by omega)]) (e 171 (by omega)))
  have hD1 := WD_side hD (fun b hb => e b (by omega))
  obtain ⟨x1, x2, x3, x4, x5, x6, x7, x8, x9, x10, x11⟩ := id hD1
  obtain ⟨M2, e2, ⟨L1, L2, L3, L4⟩, F2⟩ := r_ask (n := n) (z := z) (H := H) hD1.1 wT wS (k := k) (by rw [x6]; exact fun i i0 i1 => wb i i0 (by omega)) wk x5 x11 w_0 w_1 87
  rw [x6] at e2 F2
  rw [x7.1, x7.2] at F2
  have fu := FQ_uniq F1 F2
  have hD2 : WD M2 T s hs Nn R f 0 g (M1 11 7) (M1 11 8) x v B := WD_re hD1 (fun b hb => L1 b (by omega)) (fun i hi => L2 i (by omega)) wT L3 L4 (by rw [L1 219 (by omega)]; exact x6) fu (by rw [L2 65 (by omega)]; exact x8) (fun i i0 i1 => by rw [L1 220 (by omega)]; exact x9 i i0 i1) (LSq_frame x10 (L2 102 (by omega)) (L1 291 (by omega)))
  exact bothL e1 e2 (fun b hb => L1 b (by omega)) hC1 hD2 (WP_k hP (by omega))
theorem w_town (hW : Hw H) (hH : Hk H) (h : World M) : Pair n z H 92 167 [.ref 8] [.ref 218] M := by
  obtain ⟨T, s, hs, Nn, R, f, k, g, fa, fb, x, v, B, hC, hD, hP⟩ := h
  obtain ⟨wT, wS, wH, wN, wF, wk, wb, wx, wB⟩ := id hP
  obtain ⟨t, t', hB, c2, c3, c4, c5, c6, c7, c8, c9, c10, c11⟩ := id hC
  have ht := hB.2.1
  have t9 := a9 ht
  have t9' := a9 c5.2.1
  obtain ⟨b1, b2, b3, b4, b5, b6⟩ := id hB
  obtain ⟨u1, M1, e1, e, K4, P1⟩ := s_town (n := n) (z := z) (M := M) hW hH (k := k) (by rw [c7]; exact fun i i0 i1 => wb i i0 (by omega)) wk c6 b1 c5.1 b2 c5.2.1 c5.2.2 21
  rw [c7] at P1
  have hD1 := WD_side hD (fun b hb => e b (by omega))
  obtain ⟨x1, x2, x3, x4, x5, x6, x7, x8, x9, x10, x11⟩ := id hD1
  obtain ⟨u2, M2, e2, ee, ee8, L1, P2⟩ := r_town (n := n) (z := z) (H := H) (M := M1) (k := k) (by rw [x6]; exact fun i i0 i1 => wb i i0 (by omega)) wk x5 x11 85
  rw [x6] at P2
  rcases hr : twF g k 60 (0, false) B0 with ⟨B1, m⟩ | y
  · rw [hr] at P1 P2
    obtain ⟨rfl, A1, A2, A3, A4, A5, A6, A7, A8, A9, A10, A11, A12, A13⟩ := P1
    obtain ⟨rfl, D1, D2, D3, D4, D5, D6, D7, D8⟩ := P2
    have wB1 := (twF_wf (show (0 : Nat) ≤ k by omega) hr wfB_0).1
    have hC1 : WC M1 B1.1 (bgS B1) [] B1.2.1 0 f 0 g 0 (-1) x v B := ⟨t', t, ⟨A1, c5.2.1, A4, A5, SuK_fr b5 (e _ (by omega)), SuK_fr b6 (e _ (by omega))⟩, ⟨⟨A9, by simp⟩, by rw [A10 1 (by omega)]; exact c2.2.1, fun j y hj => by simp at hj⟩, A6, ⟨⟨A8, by omega⟩, fun i i0 i1 => by omega⟩, ⟨A2, b2, fun h => c5.2.2 h.symm⟩, K4, by rw [e 12 (by omega)]; exact c7, ⟨A12, A13⟩, by rw [A3 15 (by omega)]; exact c9, by rw [A11]; exact c10, LSq_frame c11 (by rw [e 170 (by omega)]) (e 171 (by omega))⟩
    have hD2 : WD M2 B1.1 (bgS B1) [] B1.2.1 0 f 0 g 0 (-1) x v B := ⟨⟨D5, D6⟩, ⟨⟨D3, by simp⟩, by rw [ee8 64 (by omega)]; exact x2.2.1, fun j y hj => by simp at hj⟩, D7, ⟨⟨D4, by omega⟩, fun i i0 i1 => by omega⟩, L1, by rw [ee 219 (by omega)]; exact x6, ⟨D1, D2⟩, by rw [ee8 65 (by omega)]; exact x8, by rw [D8]; exact x9, LSq_frame x10 (ee8 102 (by omega)) (ee 291 (by omega)), WK_cell x11 (fun b hb => ee b (by omega))⟩
    exact both e1 e2 (fun b hb => ee b (by omega)) hC1 hD2 ⟨wB1.1, wf_bgS wB1, fun y hy => by simp at hy, fun kind j hk hj => (A6 kind j hk hj).1, fun r hr => by omega, by omega, wb, wx, wB⟩
  · rw [hr] at P1 P2
    obtain ⟨rfl, A3, A4, A5, A6, A7⟩ := P1
    obtain ⟨rfl, D1, D2, D3, D4, D5⟩ := P2
    have hC1 : WC M1 T s hs Nn R f 0 g y.1 y.2 x (su v 1 (v 1 + 1)) B := ⟨t, t', ⟨by rw [A3 6 (by omega)]; exact b1, b2, TR_keep b3 (fun b _ _ => e b (by omega)), SR_keep b4 (fun b _ _ => A5 b (by omega)), SuK_fr b5 (e _ (by omega)), SuK_fr b6 (e _ (by omega))⟩, HC_frame c2 (fun b hb => by
      rcases hb with rfl | hb
      · exact A5 55 (by omega)
      · exact e b (by omega)), NmC_fr c3 (e _ (by omega)), SNC_frame c4 (by rw [A5 157 (by omega)]) (e 166 (by omega)), by rw [A3 7 (by omega)]; exact c5, K4, by rw [e 12 (by omega)]; exact c7, ⟨A6, A7⟩, by rw [A3 15 (by omega)]; exact c9, su_v c10 (by omega) (by omega) A4, LSq_frame c11 (by rw [e 170 (by omega)]) (e 171 (by omega))⟩
    have hD2 : WD M2 T s hs Nn R f 0 g y.1 y.2 x (su v 1 (v 1 + 1)) B := ⟨⟨RT_okW x1.1 D4, NR_congr wT x1.2 (fun i _ _ => D4 259 i (noW (by omega)) (by omega))⟩, HR_frame x2 (ee 263 (by omega)) (D5 63 (by omega)) (D5 64 (by omega)), fun kind j hk hj => by rw [D4 251 _ (noW_251 (by omega)) (by omega)]; exact x3 kind j hk hj, SNR_frame x4 (D5 66 (by omega)) (ee 264 (by omega)), L1, by rw [ee 219 (by omega)]; exact x6, ⟨D1, D2⟩, by rw [D5 65 (by omega)]; exact x8, su_v x9 (by omega) (by omega) D3, LSq_frame x10 (D5 102 (by omega)) (ee 291 (by omega)), WK_cell x11 (fun b hb => ee b (by omega))⟩
    exact both e1 e2 (fun b hb => ee b (by omega)) hC1 hD2 (WP_k hP (by omega))
end

/-! THE WORLD: calls that change it -/
section
variable {n z : Nat} {H : Nat → AC} {M M1 M2 : Me} {T : TT} {s s' : Ss} {hs hs' : List Ss} {Nn : Nat → Nat → List Nat} {R R' : Nat} {f f' : Int → Int} {k k' : Nat} {g g' : Int → Int} {fa fb x fa' fb' x' : Int} {v v' : Int → Int} {B B' : List Int}
theorem WC_re (h : WC M T s hs Nn R f k g fa fb x v B) (e : ∀ b, ¬ (b = 8 ∨ b = 10 ∨ b = 11 ∨ b = 12 ∨ b = 13 ∨ b = 14 ∨ b = 42 ∨ b = 43 ∨ (49 ≤ b ∧ b ≤ 53) ∨ (157 ≤ b ∧ b ≤ 165) ∨ (167 ≤ b ∧ b ≤ 217) ∨ 218 ≤ b) → M1 b = M b) (e8 : ∀ i, ¬ (i = 4 ∨ i = 15) → M1 8 i = M 8 i) (e157 : M1 157 3 = M 157 3) (u1 : SuK M1 41) (u2 : SuK M1 158) (a1 : M1 8 4 = k') (a2 : M1 12 = g') (a3 : M1 11 7 = fa' ∧ M1 11 8 = fb') (a4 : M1 8 15 = x') (a5 : ∀ i : Int, 0 ≤ i → i < 6 → M1 172 i = v' i) (a6 : LSq M1 170 1 171 B') : WC M1 T s hs Nn R f k' g' fa' fb' x' v' B' := by
  obtain ⟨t, t', ⟨b1, b2, b3, b4, b5, b6⟩, h2, h3, h4, h5, h6, h7, h8, h9, h10, h11⟩ := h
  have t9 := a9 b2
  exact ⟨t, t', ⟨by rw [e8 6 (by omega)]; exact b1, b2, TR_keep b3 (fun b _ _ => e b (by omega)), SR_keep b4 (fun b _ _ => e b (by omega)), u1, u2⟩, HC_frame h2 (fun b hb => e b (by omega)), NmC_fr h3 (e _ (by omega)), SNC_frame h4 e157 (e 166 (by omega)), by rw [e8 7 (by omega)]; exact h5, a1, a2, a3, a4, a5, a6⟩
theorem WD_re (h : WD M T s hs Nn R f k g fa fb x v B) (e : ∀ b, ¬ (b < 218 ∨ b = 218 ∨ b = 219 ∨ b = 220 ∨ (259 ≤ b ∧ b ≤ 262) ∨ b = 265 ∨ 288 ≤ b) → M1 b = M b) (e8 : ∀ i, i = 63 ∨ i = 64 ∨ i = 66 → M1 218 i = M 218 i) (wT : wfT T) (e9 : ∀ i : Int, 0 ≤ i → i < 95 → M1 259 i = M 259 i) (a1 : M1 218 1 = k') (a2 : M1 219 = g') (a3 : M1 218 7 = fa' ∧ M1 218 8 = fb') (a4 : M1 218 65 = x') (a5 : ∀ i : Int, 0 ≤ i → i < 6 → M1 220 i = v' i) (a6 : LSq M1 218 102 291 B') : WD M1 T s hs Nn R f k' g' fa' fb' x' v' B' := by
  obtain ⟨⟨b1, b2⟩, h2, h3, h4, h5, h6, h7, h8, h9, h10, h11⟩ := h
  exact ⟨⟨RT_keep b1 (fun b hb => e b (by omega)), NR_congr wT b2 e9⟩, HR_frame h2 (e 263 (by omega)) (e8 63 (by omega)) (e8 64 (by omega)), NmR_fr h3 (e 251 (by omega)), SNR_frame h4 (e8 66 (by omega)) (e 264 (by omega)), a1, a2, a3, a4, a5, a6, WK_cell h11 (fun b hb => e b (by omega))⟩
theorem su_v {M M1 : Me} {a : Nat} {c : Int} {v : Int → Int} (h : ∀ i : Int, 0 ≤ i → i < 6 → M a i = v i) (c0 : 0 ≤ c) (c1 : c < 6) (e : M1 a = su (M a) c (M a c + 1)) : ∀ i : Int, 0 ≤ i → i < 6 → M1 a i = su v c (v c + 1) i := fun i i0 i1 => by
  rw [e]
  by_cases q : i = c
  · subst q
    rw [su_self, su_self, h i c0 c1]
  · rw [su_ne _ _ q, su_ne _ _ q]
    exact h i i0 i1
theorem SuK_fr {M M1 : Me} {a : Nat} (h : SuK M a) (e : M1 (a + 1) = M (a + 1)) : SuK M1 a := by
  unfold SuK
  rw [e]
  exact h
/-- a refusal counted, and no more -/
theorem WC_no (h : WC M T s hs Nn R f k g fa fb x v B) {c : Int} (c0 : 0 ≤ c) (c1 : c < 6) : WC (st M 172 c (M 172 c + 1)) T s hs Nn R f k g fa fb x (su v c (v c + 1)) B := by
  obtain ⟨t, t', ⟨b1, b2, b3, b4, b5, b6⟩, h2, h3, h4, h5, h6, h7, h8, h9, h10, h11⟩ := id h
  exact WC_re h (fun b hb => st_ne _ _ _ (by omega)) (fun i hi => by rw [st_ne _ _ _ (by omega)]) (by rw [st_ne _ _ _ (by omega)]) (SuK_fr b5 (st_ne _ _ _ (by omega))) (SuK_fr b6 (st_ne _ _ _ (by omega))) (by rw [st_ne _ _ _ (by omega)]; exact h6) (by rw [st_ne _ _ _ (by omega)]; exact h7) (by rw [st_ne _ _ _ (by omega)]; exact h8) (by rw [st_ne _ _ _ (by omega)]; exact h9) (su_v h10 c0 c1 (st_self _ _ _ _)) (LSq_frame h11 (by rw [st_ne _ _ _ (by omega)]) (st_ne _ _ _ (by omega)))
theorem WD_no (h : WD M T s hs Nn R f k g fa fb x v B) (wT : wfT T) {c : Int} (c0 : 0 ≤ c) (c1 : c < 6) : WD (st M 220 c (M 220 c + 1)) T s hs Nn R f k g fa fb x (su v c (v c + 1)) B := by
  obtain ⟨⟨b1, b2⟩, h2, h3, h4, h5, h6, h7, h8, h9, h10, h11⟩ := id h
  exact WD_re h (fun b hb => st_ne _ _ _ (by omega)) (fun i hi => by rw [st_ne _ _ _ (by omega)]) wT (fun i _ _ => by rw [st_ne _ _ _ (by omega)]) (by rw [st_ne _ _ _ (by omega)]; exact h5) (by rw [st_ne _ _ _ (by omega)]; exact h6) (by rw [st_ne _ _ _ (by omega)]; exact h7) (by rw [st_ne _ _ _ (by omega)]; exact h8) (su_v h9 c0 c1 (st_self _ _ _ _)) (LSq_frame h10 (by rw [st_ne _ _ _ (by omega)]) (st_ne _ _ _ (by omega)))
/-- the tape taken away -/
theorem WC_k (h : WC M T s hs Nn R f k g fa fb x v B) {w : Nat} : WC (st M 8 4 (w : Nat)) T s hs Nn R f w g fa fb x v B := by
  obtain ⟨t, t', ⟨b1, b2, b3, b4, b5, b6⟩, h2, h3, h4, h5, h6, h7, h8, h9, h10, h11⟩ := id h
  exact WC_re h (fun b hb => st_ne _ _ _ (by omega)) (fun i hi => by rw [st_self, su_ne _ _ (by omega)]) (by rw [st_ne _ _ _ (by omega)]) (SuK_fr b5 (st_ne _ _ _ (by omega))) (SuK_fr b6 (st_ne _ _ _ (by omega))) (by rw [st_self, su_self]) (by rw [st_ne _ _ _ (by omega)]; exact h7) (by rw [st_ne _ _ _ (by omega)]; exact h8) (by rw [st_self, su_ne _ _ (by omega)]; exact h9) (fun i i0 i1 => by rw [st_ne _ _ _ (by omega)]; exact h10 i i0 i1) (LSq_frame h11 (by rw [st_ne _ _ _ (by omega)]) (st_ne _ _ _ (by omega)))
theorem WD_k (h : WD M T s hs Nn R f k g fa fb x v B) (wT : wfT T) {w : Nat} : WD (st M 218 1 (w : Nat)) T s hs Nn R f w g fa fb x v B := by
  obtain ⟨⟨b1, b2⟩, h2, h3, h4, h5, h6, h7, h8, h9, h10, h11⟩ := id h
  exact WD_re h (fun b hb => st_ne _ _ _ (by omega)) (fun i hi => by rw [st_self, su_ne _ _ (by omega)]) wT (fun i _ _ => by rw [st_ne _ _ _ (by omega)]) (by rw [st_self, su_self]) (by rw [st_ne _ _ _ (by omega)]; exact h6) (by rw [st_self, su_ne _ _ (by omega), su_ne _ _ (by omega)]; exact h7) (by rw [st_self, su_ne _ _ (by omega)]; exact h8) (fun i i0 i1 => by rw [st_ne _ _ _ (by omega)]; exact h9 i i0 i1) (LSq_frame h10 (by rw [st_self, su_ne _ _ (by omega)]) (st_ne _ _ _ (by omega)))
theorem WC_act (h : WC M T s hs Nn R f k g fa fb x v B) (A : ActC T M M1 s' hs') : WC M1 T s' hs' Nn R f k g fa fb x v B := by
  obtain ⟨t, t', ⟨b1, b2, b3, b4, b5, b6⟩, h2, h3, h4, h5, h6, h7, h8, h9, h10, h11⟩ := h
  obtain ⟨A1, A2, A3, e⟩ := A
  have t9 := a9 b2
  exact ⟨t, t', ⟨by rw [e 8 (by omega)]; exact b1, b2, TR_keep b3 (fun b _ _ => e b (by omega)), A1, A3, SuK_fr b6 (e _ (by omega))⟩, A2, NmC_fr h3 (e _ (by omega)), SNC_frame h4 (by rw [e 157 (by omega)]) (e 166 (by omega)), by rw [e 8 (by omega)]; exact h5, by rw [e 8 (by omega)]; exact h6, by rw [e 12 (by omega)]; exact h7, by rw [e 11 (by omega)]; exact h8, by rw [e 8 (by omega)]; exact h9, by rw [e 172 (by omega)]; exact h10, LSq_frame h11 (by rw [e 170 (by omega)]) (e 171 (by omega))⟩
theorem WD_act (h : WD M T s hs Nn R f k g fa fb x v B) (A : ActR T M M1 s' hs') : WD M1 T s' hs' Nn R f k g fa fb x v B := by
  obtain ⟨⟨b1, b2⟩, h2, h3, h4, h5, h6, h7, h8, h9, h10, h11⟩ := h
  obtain ⟨A1, A2, e, e2⟩ := A
  exact ⟨⟨RT_keep b1 (fun b hb => e b (by omega)), A1⟩, A2, NmR_fr h3 (e 251 (by omega)), SNR_frame h4 (e2 66 (by omega)) (e 264 (by omega)), by rw [e2 1 (by omega)]; exact h5, by rw [e 219 (by omega)]; exact h6, by rw [e2 7 (by omega), e2 8 (by omega)]; exact h7, by rw [e2 65 (by omega)]; exact h8, by rw [e 220 (by omega)]; exact h9, LSq_frame h10 (e2 102 (by omega)) (e 291 (by omega)), WK_cell h11 (fun b hb => e b (by omega))⟩
theorem hsK_wf (wS : wfS T s) (wH : ∀ y ∈ hs, wfS T y) : ∀ y ∈ hsK s hs, wfS T y := fun y hy => by
  unfold hsK at hy
  have := List.mem_of_mem_take hy
  rcases List.mem_cons.mp this with rfl | h
  · exact wS
  · exact wH y h
/-- both change alike: the pair -/
theorem both {ma mr : Nat} {la lr : List Value} {u : Int} {T' : TT} {Nn' : Nat → Nat → List Nat} (e1 : X 100 ma la (n, z, hp H M) = some (some (.int (jI u)), (n, z, hp H M1))) (e2 : X 100 mr lr (n, z, hp H M1) = some (some (.int (jI u)), (n, z, hp H M2))) (lo : ∀ b, b < 218 → M2 b = M1 b) (hC : WC M1 T' s hs Nn' R f k g fa fb x v B) (hD : WD M2 T' s hs Nn' R f k g fa fb x v B) (hP : WP T' s hs Nn' R f k g x B) : Pair n z H ma mr la lr M :=
  ⟨u, M1, M2, e1, e2, T', s, hs, Nn', R, f, k, g, fa, fb, x, v, B, WC_side hC lo, hD, hP⟩
def PairL (n z : Nat) (H : Nat → AC) (ma mr : Nat) (la lr : List Value) (M : Me) : Prop := ∃ (u : Int) (M1 M2 : Me), X 100 ma la (n, z, hp H M) = some (some (.long (jL u)), (n, z, hp H M1)) ∧ X 100 mr lr (n, z, hp H M1) = some (some (.long (jL u)), (n, z, hp H M2)) ∧ World M2
theorem bothL {ma mr : Nat} {la lr : List Value} {u : Int} {T' : TT} {Nn' : Nat → Nat → List Nat} (e1 : X 100 ma la (n, z, hp H M) = some (some (.long (jL u)), (n, z, hp H M1))) (e2 : X 100 mr lr (n, z, hp H M1) = some (some (.long (jL u)), (n, z, hp H M2))) (lo : ∀ b, b < 218 → M2 b = M1 b) (hC : WC M1 T' s hs Nn' R f k g fa fb x v B) (hD : WD M2 T' s hs Nn' R f k g fa fb x v B) (hP : WP T' s hs Nn' R f k g x B) : PairL n z H ma mr la lr M :=
  ⟨u, M1, M2, e1, e2, T', s, hs, Nn', R, f, k, g, fa, fb, x, v, B, WC_side hC lo, hD, hP⟩
theorem WP_k (h : WP T s hs Nn R f k g x B) (hk : k' ≤ 1600) : WP T s hs Nn R f k' g x B := ⟨h.1, h.2.1, h.2.2.1, h.2.2.2.1, h.2.2.2.2.1, hk, h.2.2.2.2.2.2⟩
theorem WP_act (h : WP T s hs Nn R f k g x B) (wS : wfS T s') : WP T s' (hsK s hs) Nn R f k g x B := ⟨h.1, wS, hsK_wf h.2.1 h.2.2.1, h.2.2.2⟩
end
section
variable {n z : Nat} {H : Nat → AC} {M : Me}
theorem w_go (hH : Hk H) (h : World M) {k1 : Int} (k1_0 : -2147483648 ≤ k1) (k1_1 : k1 < 2147483648) : Pair n z H 108 223 [.ref 8, .int (jI k1)] [.ref 218, .int (jI k1)] M := by
  obtain ⟨T, s, hs, Nn, R, f, k, g, fa, fb, x, v, B, hC, hD, hP⟩ := h
  obtain ⟨wT, wS, wH, wN, wF, wk, wb, wx, wB⟩ := id hP
  obtain ⟨t, t', hB, c2, c3, c4, c5, c6, c7, c8, c9, c10, c11⟩ := id hC
  by_cases q : 1 ≤ k1 ∧ k1 ≤ 500 ∧ sh s + k1 ≤ 9999
  · obtain ⟨M1, e1, A1⟩ := c_go_t (n := n) (z := z) hH hB c2 wT wS q 92
    have hD1 := WD_side hD (fun b hb => A1.2.2.2 b (by omega))
    obtain ⟨M2, e2, A2⟩ := r_go_t (n := n) (z := z) (H := H) hD1.1 hD1.2.1 wT wS q 91
    exact both e1 e2 (fun b hb => A2.2.2.1 b (by omega)) (WC_act hC A1) (WD_act hD1 A2) (WP_act hP ((wf_hours wT wS (by omega)).1))
  ·
    have e1 := c_go_f (n := n) (z := z) (H := H) hB wT wS k1_0 k1_1 q 92
    have hC1 := WC_no hC (c := 2) (by omega) (by omega)
    have hD1 := WD_side (M' := st M 172 2 (M 172 2 + 1)) hD (fun b hb => st_ne _ _ _ (by omega))
    have e2 := r_go_f (n := n) (z := z) (H := H) hD1.1 wT wS k1_0 k1_1 q 91
    exact both e1 e2 (fun b hb => st_ne _ _ _ (by omega)) hC1 (WD_no hD1 wT (by omega) (by omega)) hP
theorem w_knead (hH : Hk H) (h : World M) {l w : Int} (l_0 : -2147483648 ≤ l) (l_1 : l < 2147483648) (w_0 : -2147483648 ≤ w) (w_1 : w < 2147483648) : Pair n z H 109 224 [.ref 8, .int (jI l), .int (jI w)] [.ref 218, .int (jI l), .int (jI w)] M := by
  obtain ⟨T, s, hs, Nn, R, f, k, g, fa, fb, x, v, B, hC, hD, hP⟩ := h
  obtain ⟨wT, wS, wH, wN, wF, wk, wb, wx, wB⟩ := id hP
  obtain ⟨t, t', hB, c2, c3, c4, c5, c6, c7, c8, c9, c10, c11⟩ := id hC
  by_cases q : (0 ≤ l ∧ l < nl T) ∧ 1 ≤ w ∧ w < 2 ^ np T ∧ pop w ≤ 3
  · obtain ⟨M1, e1, A1⟩ := c_knead_t (n := n) (z := z) hB c2 wT wS q.1.1 q.1.2 q.2.1 q.2.2.1 q.2.2.2 92
    have hD1 := WD_side hD (fun b hb => A1.2.2.2 b (by omega))
    obtain ⟨M2, e2, A2⟩ := r_knead_t (n := n) (z := z) (H := H) hD1.1 hD1.2.1 wT wS q.1.1 q.1.2 q.2.1 q.2.2.1 q.2.2.2 91
    exact both e1 e2 (fun b hb => A2.2.2.1 b (by omega)) (WC_act hC A1) (WD_act hD1 A2) (WP_act hP (wf_setk wS q.2.1 q.2.2.1 q.2.2.2))
  ·
    have e1 := c_knead_f (n := n) (z := z) (H := H) hB wT wS l_0 l_1 w_0 w_1 q 92
    have hC1 := WC_no hC (c := 2) (by omega) (by omega)
    have hD1 := WD_side (M' := st M 172 2 (M 172 2 + 1)) hD (fun b hb => st_ne _ _ _ (by omega))
    have e2 := r_knead_f (n := n) (z := z) (H := H) hD1.1 wT wS l_0 l_1 w_0 w_1 q 91
    exact both e1 e2 (fun b hb => st_ne _ _ _ (by omega)) hC1 (WD_no hD1 wT (by omega) (by omega)) hP
theorem w_calm (hH : Hk H) (h : World M) {p m w : Int} (p_0 : -2147483648 ≤ p) (p_1 : p < 2147483648) (m_0 : -2147483648 ≤ m) (m_1 : m < 2147483648) (w_0 : -2147483648 ≤ w) (w_1 : w < 2147483648) : Pair n z H 110 225 [.ref 8, .int (jI p), .int (jI m), .int (jI w)] [.ref 218, .int (jI p), .int (jI m), .int (jI w)] M := by
  obtain ⟨T, s, hs, Nn, R, f, k, g, fa, fb, x, v, B, hC, hD, hP⟩ := h
  obtain ⟨wT, wS, wH, wN, wF, wk, wb, wx, wB⟩ := id hP
  obtain ⟨t, t', hB, c2, c3, c4, c5, c6, c7, c8, c9, c10, c11⟩ := id hC
  by_cases q : ((0 ≤ p ∧ p < np T) ∧ 0 ≤ m ∧ m < nm T) ∧ 0 ≤ w ∧ w ≤ 99
  · obtain ⟨M1, e1, A1⟩ := c_calm_t (n := n) (z := z) hB c2 wT wS q.1.1.1 q.1.1.2 q.1.2.1 q.1.2.2 q.2.1 q.2.2 92
    have hD1 := WD_side hD (fun b hb => A1.2.2.2 b (by omega))
    obtain ⟨M2, e2, A2⟩ := r_calm_t (n := n) (z := z) (H := H) hD1.1 hD1.2.1 wT wS q.1.1.1 q.1.1.2 q.1.2.1 q.1.2.2 q.2.1 q.2.2 91
    exact both e1 e2 (fun b hb => A2.2.2.1 b (by omega)) (WC_act hC A1) (WD_act hD1 A2) (WP_act hP (wf_setn wS q.2.1 q.2.2))
  ·
    have e1 := c_calm_f (n := n) (z := z) (H := H) hB wT wS p_0 p_1 m_0 m_1 w_0 w_1 q 92
    have hC1 := WC_no hC (c := 2) (by omega) (by omega)
    have hD1 := WD_side (M' := st M 172 2 (M 172 2 + 1)) hD (fun b hb => st_ne _ _ _ (by omega))
    have e2 := r_calm_f (n := n) (z := z) (H := H) hD1.1 wT wS p_0 p_1 m_0 m_1 w_0 w_1 q 91
    exact both e1 e2 (fun b hb => st_ne _ _ _ (by omega)) hC1 (WD_no hD1 wT (by omega) (by omega)) hP
theorem w_end (hH : Hk H) (h : World M) {w : Int} (w_0 : -2147483648 ≤ w) (w_1 : w < 2147483648) : Pair n z H 91 138 [.ref 8, .int (jI w)] [.ref 218, .int (jI w)] M := by
  obtain ⟨T, s, hs, Nn, R, f, k, g, fa, fb, x, v, B, hC, hD, hP⟩ := h
  obtain ⟨wT, wS, wH, wN, wF, wk, wb, wx, wB⟩ := id hP
  obtain ⟨t, t', hB, c2, c3, c4, c5, c6, c7, c8, c9, c10, c11⟩ := id hC
  have e1 := c_end (n := n) (z := z) (H := H) (M := M) (d := 98) w_0 w_1 (by omega) (by omega)
  rw [c6] at e1
  by_cases q : 0 ≤ w ∧ w ≤ (k : Nat)
  · rw [if_pos q, if_pos q] at e1
    have hw : ((w.toNat : Nat) : Int) = w := Int.toNat_of_nonneg q.1
    have hC1 := WC_k hC (w := w.toNat)
    rw [hw] at hC1
    have hD1 := WD_side (M' := st M 8 4 w) hD (fun b hb => st_ne _ _ _ (by omega))
    have y1 := hD1.2.2.2.2.1
    have e2 := r_end (n := n) (z := z) (H := H) (M := st M 8 4 w) (d := 98) w_0 w_1 (by omega) (by omega)
    rw [y1, if_pos q, if_pos q] at e2
    have hD2 := WD_k hD1 wT (w := w.toNat)
    rw [hw] at hD2
    exact both e1 e2 (fun b hb => st_ne _ _ _ (by omega)) hC1 hD2 (WP_k hP (by omega))
  · rw [if_neg q, if_neg q] at e1
    have hC1 := WC_no hC (c := 0) (by omega) (by omega)
    have hD1 := WD_side (M' := st M 172 0 (M 172 0 + 1)) hD (fun b hb => st_ne _ _ _ (by omega))
    have y1 := hD1.2.2.2.2.1
    have e2 := r_end (n := n) (z := z) (H := H) (M := st M 172 0 (M 172 0 + 1)) (d := 98) w_0 w_1 (by omega) (by omega)
    rw [y1, if_neg q, if_neg q] at e2
    exact both e1 e2 (fun b hb => st_ne _ _ _ (by omega)) hC1 (WD_no hD1 wT (by omega) (by omega)) hP
theorem w_feed (hH : Hk H) (h : World M) {a b c e w : Int} (a_0 : -2147483648 ≤ a) (a_1 : a < 2147483648) (b_0 : -2147483648 ≤ b) (b_1 : b < 2147483648) (c_0 : -2147483648 ≤ c) (c_1 : c < 2147483648) (e_0 : -2147483648 ≤ e) (e_1 : e < 2147483648) (w_0 : -2147483648 ≤ w) (w_1 : w < 2147483648) : Pair n z H 90 137 [.ref 8, .int (jI a), .int (jI b), .int (jI c), .int (jI e), .int (jI w)] [.ref 218, .int (jI a), .int (jI b), .int (jI c), .int (jI e), .int (jI w)] M := by
  obtain ⟨T, s, hs, Nn, R, f, k, g, fa, fb, x, v, B, hC, hD, hP⟩ := h
  obtain ⟨wT, wS, wH, wN, wF, wk, wb, wx, wB⟩ := id hP
  obtain ⟨t, t', hB, c2, c3, c4, c5, c6, c7, c8, c9, c10, c11⟩ := id hC
  have d1 := hD.2.2.2.2.1
  by_cases q : k ≤ 1580
  · obtain ⟨M1, e1, f1, f2, f3, f4⟩ := c_feed_t (n := n) (z := z) (H := H) (M := M) (a := a) (b := b) (c := c) (e := e) (f := w) (d := 98) c6 (by omega) (by omega)
    have hD1 := WD_side hD (fun b hb => f3 b (by omega))
    obtain ⟨M2, e2, g1, g2, g3, g4⟩ := r_feed_t (n := n) (z := z) (H := H) (M := M1) (d := 98) a_0 a_1 b_0 b_1 c_0 c_1 e_0 e_1 w_0 w_1 hD1.2.2.2.2.1 (by omega) (by omega)
    have b5 := hB.2.2.2.2.1
    have b6 := hB.2.2.2.2.2
    have hC1 : WC M1 T s hs Nn R f (k + 20) (fun i => if (k : Int) ≤ i ∧ i < k + 20 then byF a b c e w (i - k) else g i) fa fb x v B := WC_re hC (fun b hb => f3 b (by omega)) (fun i hi => f2 i (by omega)) (by rw [f3 157 (by omega)]) (SuK_fr b5 (f3 _ (by omega))) (SuK_fr b6 (f3 _ (by omega))) (by rw [f1]; omega) (by funext i; rw [f4 i, c7]) (by rw [f3 11 (by omega)]; exact c8) (by rw [f2 15 (by omega)]; exact c9) (fun i i0 i1 => by rw [f3 172 (by omega)]; exact c10 i i0 i1) (LSq_frame c11 (by rw [f3 170 (by omega)]) (f3 171 (by omega)))
    obtain ⟨x1, x2, x3, x4, x5, x6, x7, x8, x9, x10, x11⟩ := id hD1
    have hD2 : WD M2 T s hs Nn R f (k + 20) (fun i => if (k : Int) ≤ i ∧ i < k + 20 then byF a b c e w (i - k) else g i) fa fb x v B := WD_re hD1 (fun b hb => g3 b (by omega)) (fun i hi => g2 i (by omega)) wT (fun i _ _ => by rw [g3 259 (by omega)]) (by rw [g1]; omega) (by funext i; rw [g4 i, x6]) (by rw [g2 7 (by omega), g2 8 (by omega)]; exact x7) (by rw [g2 65 (by omega)]; exact x8) (fun i i0 i1 => by rw [g3 220 (by omega)]; exact x9 i i0 i1) (LSq_frame x10 (g2 102 (by omega)) (g3 291 (by omega)))
    refine both e1 e2 (fun b hb => g3 b (by omega)) hC1 hD2 ⟨wT, wS, wH, wN, wF, by omega, fun i i0 i1 => ?_, wx, wB⟩
    dsimp only
    split
    · exact byF_rng _ _ _ _ _ _
    · exact wb i i0 i1
  · have e1 := c_feed_f (n := n) (z := z) (H := H) (M := M) (a := a) (b := b) (c := c) (e := e) (f := w) (d := 98) c6 (by omega) (by omega)
    have hC1 := WC_no hC (c := 0) (by omega) (by omega)
    have hD1 := WD_side (M' := st M 172 0 (M 172 0 + 1)) hD (fun b hb => st_ne _ _ _ (by omega))
    have e2 := r_feed_f (n := n) (z := z) (H := H) (M := st M 172 0 (M 172 0 + 1)) (a := a) (b := b) (c := c) (e := e) (f := w) (d := 98) hD1.2.2.2.2.1 (by omega) (by omega)
    exact both e1 e2 (fun b hb => st_ne _ _ _ (by omega)) hC1 (WD_no hD1 wT (by omega) (by omega)) hP
end

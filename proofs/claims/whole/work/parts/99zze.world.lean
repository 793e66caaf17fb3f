/-! THE WORLD: the class and the reference tell of the same -/
def WC (M : Me) (T : TT) (s : Ss) (hs : List Ss) (Nn : Nat → Nat → List Nat) (R : Nat) (f : Int → Int) (k : Nat) (g : Int → Int) (fa fb x : Int) (v : Int → Int) (B : List Int) : Prop := ∃ t t' : Nat, CB M t T s ∧ HC T M hs ∧ NmC M t T Nn ∧ SNC M R f ∧ ((M 8 7).toNat = t' ∧ kd t' = 9 ∧ ¬ t = t') ∧ M 8 4 = k ∧ M 12 = g ∧ (M 11 7 = fa ∧ M 11 8 = fb) ∧ M 8 15 = x ∧ (∀ i : Int, 0 ≤ i → i < 6 → M 172 i = v i) ∧ LSq M 170 1 171 B
def WD (M : Me) (T : TT) (s : Ss) (hs : List Ss) (Nn : Nat → Nat → List Nat) (R : Nat) (f : Int → Int) (k : Nat) (g : Int → Int) (fa fb x : Int) (v : Int → Int) (B : List Int) : Prop := RB M T s ∧ HR T M hs ∧ NmR M T Nn ∧ SNR M R f ∧ M 218 1 = k ∧ M 219 = g ∧ (M 218 7 = fa ∧ M 218 8 = fb) ∧ M 218 65 = x ∧ (∀ i : Int, 0 ≤ i → i < 6 → M 220 i = v i) ∧ LSq M 218 102 291 B ∧ WK M
/-- what holds of it purely -/
def WP (T : TT) (s : Ss) (hs : List Ss) (Nn : Nat → Nat → List Nat) (R : Nat) (f : Int → Int) (k : Nat) (g : Int → Int) (x : Int) (B : List Int) : Prop := wfT T ∧ wfS T s ∧ (∀ y ∈ hs, wfS T y) ∧ (∀ kind j : Nat, kind < 4 → j < cntK T kind → wfL (Nn kind j)) ∧ wfN T R f ∧ k ≤ 1600 ∧ Byt g 1600 ∧ (0 ≤ x ∧ x < 2147483648) ∧ B.length ≤ 97
def World (M : Me) : Prop := ∃ (T : TT) (s : Ss) (hs : List Ss) (Nn : Nat → Nat → List Nat) (R : Nat) (f : Int → Int) (k : Nat) (g : Int → Int) (fa fb x : Int) (v : Int → Int) (B : List Int), WC M T s hs Nn R f k g fa fb x v B ∧ WD M T s hs Nn R f k g fa fb x v B ∧ WP T s hs Nn R f k g x B
theorem wc_rng : ∀ p ∈ wcL, 221 ≤ p.1 ∧ (p.1 ≤ 249 ∨ 266 ≤ p.1 ∧ p.1 ≤ 287) := by decide +kernel
theorem WK_cell {M M' : Me} (h : WK M) (e : ∀ b, 221 ≤ b ∧ (b ≤ 249 ∨ 266 ≤ b ∧ b ≤ 287) → M' b = M b) : WK M' := fun p hpp i hi => by
  rw [e _ (wc_rng p hpp)]
  exact h p hpp i hi
theorem Jc_lt {b : Nat} (h : Jc b) : b < 218 := by unfold Jc at h; omega
theorem NmC_fr {M M' : Me} {t : Nat} {T : TT} {Nn : Nat → Nat → List Nat} (h : NmC M t T Nn) (e : M' (t + 2) = M (t + 2)) : NmC M' t T Nn := fun kind j hk hj => by
  rw [e]
  exact h kind j hk hj
theorem NmR_fr {M M' : Me} {T : TT} {Nn : Nat → Nat → List Nat} (h : NmR M T Nn) (e : M' 251 = M 251) : NmR M' T Nn := fun kind j hk hj => by
  rw [e]
  exact h kind j hk hj
section
variable {n z : Nat} {H : Nat → AC} {M M' : Me} {T : TT} {s : Ss} {hs : List Ss} {Nn : Nat → Nat → List Nat} {R : Nat} {f : Int → Int} {k : Nat} {g : Int → Int} {fa fb x : Int} {v : Int → Int} {B : List Int}
theorem WC_side (h : WC M T s hs Nn R f k g fa fb x v B) (e : ∀ b, b < 218 → M' b = M b) : WC M' T s hs Nn R f k g fa fb x v B := by
  obtain ⟨t, t', ⟨b1, b2, b3, b4, b5, b6⟩, h2, h3, h4, h5, h6, h7, h8, h9, h10, h11⟩ := h
  have t9 := a9 b2
  refine ⟨t, t', ⟨by rw [e 8 (by omega)]; exact b1, b2, TR_keep b3 (fun b _ _ => e b (by omega)), SR_keep b4 (fun b _ _ => e b (by omega)), by unfold SuK; rw [e _ (by omega)]; exact b5, by unfold SuK; rw [e _ (by omega)]; exact b6⟩, HC_frame h2 (fun b hb => e b (by omega)), NmC_fr h3 (e _ (by omega)), SNC_frame h4 (by rw [e 157 (by omega)]) (e 166 (by omega)), by rw [e 8 (by omega)]; exact h5, by rw [e 8 (by omega)]; exact h6, by rw [e 12 (by omega)]; exact h7, by rw [e 11 (by omega)]; exact h8, by rw [e 8 (by omega)]; exact h9, by rw [e 172 (by omega)]; exact h10, LSq_frame h11 (by rw [e 170 (by omega)]) (e 171 (by omega))⟩
theorem WD_side (h : WD M T s hs Nn R f k g fa fb x v B) (e : ∀ b, 218 ≤ b → M' b = M b) : WD M' T s hs Nn R f k g fa fb x v B := by
  obtain ⟨⟨b1, b2⟩, h2, h3, h4, h5, h6, h7, h8, h9, h10, h11⟩ := h
  refine ⟨⟨RT_keep b1 (fun b hb => e b (by omega)), by rw [e 259 (by omega)]; exact b2⟩, HR_frame h2 (e 263 (by omega)) (by rw [e 218 (by omega)]) (by rw [e 218 (by omega)]), NmR_fr h3 (e 251 (by omega)), SNR_frame h4 (by rw [e 218 (by omega)]) (e 264 (by omega)), by rw [e 218 (by omega)]; exact h5, by rw [e 219 (by omega)]; exact h6, by rw [e 218 (by omega)]; exact h7, by rw [e 218 (by omega)]; exact h8, by rw [e 220 (by omega)]; exact h9, LSq_frame h10 (by rw [e 218 (by omega)]) (e 291 (by omega)), WK_cell h11 (fun b hb => e b (by omega))⟩
theorem KC_hi (h : KC M M') : ∀ b, 218 ≤ b → M' b = M b := fun b hb => h.1 b (fun q => by
  rcases q with q | q
  · have := Jc_lt q; omega
  · omega)
theorem KR_lo (h : KR M M') : ∀ b, b < 218 → M' b = M b := fun b hb => h.1 b (by omega)
theorem WC_KC (h : WC M T s hs Nn R f k g fa fb x v B) (K : KC M M') : WC M' T s hs Nn R f k g fa fb x v B := by
  obtain ⟨t, t', hB, h2, h3, h4, h5, h6, h7, h8, h9, h10, h11⟩ := h
  have t9 := a9 hB.2.1
  have e : ∀ b, ¬ (b = 42 ∨ b = 43 ∨ (49 ≤ b ∧ b ≤ 53) ∨ (157 ≤ b ∧ b ≤ 165) ∨ (167 ≤ b ∧ b ≤ 169) ∨ 173 ≤ b) → M' b = M b := fun b hb => K.1 b (fun q => by
    rcases q with q | q
    · unfold Jc at q; omega
    · omega)
  exact ⟨t, t', CB_keep hB K, HC_frame h2 (fun b hb => e b (by omega)), NmC_fr h3 (e _ (by omega)), SNC_frame h4 K.2.1 (e 166 (by omega)), by rw [e 8 (by omega)]; exact h5, by rw [e 8 (by omega)]; exact h6, by rw [e 12 (by omega)]; exact h7, by rw [e 11 (by omega)]; exact h8, by rw [e 8 (by omega)]; exact h9, by rw [e 172 (by omega)]; exact h10, LSq_frame h11 (by rw [e 170 (by omega)]) (e 171 (by omega))⟩
theorem WD_KR (wT : wfT T) (h : WD M T s hs Nn R f k g fa fb x v B) (K : KR M M') : WD M' T s hs Nn R f k g fa fb x v B := by
  obtain ⟨hB, h2, h3, h4, h5, h6, h7, h8, h9, h10, h11⟩ := h
  have e := fun b hb => K.1 b hb
  have e2 := fun i hi => K.2.1 i hi
  exact ⟨RB_keep wT hB K, HR_frame h2 (e 263 (by omega)) (e2 63 (by omega)) (e2 64 (by omega)), NmR_fr h3 (e 251 (by omega)), SNR_KR h4 K, by rw [e2 1 (by omega)]; exact h5, by rw [e 219 (by omega)]; exact h6, by rw [e2 7 (by omega), e2 8 (by omega)]; exact h7, by rw [e2 65 (by omega)]; exact h8, by rw [e 220 (by omega)]; exact h9, LSq_frame h10 (e2 102 (by omega)) (e 291 (by omega)), WK_cell h11 (fun b hb => e b (by omega))⟩
end
/-- a call of both: the same answer, and the world goes on -/
def Pair (n z : Nat) (H : Nat → AC) (ma mr : Nat) (la lr : List Value) (M : Me) : Prop := ∃ (u : Int) (M1 M2 : Me), X 100 ma la (n, z, hp H M) = some (some (.int (jI u)), (n, z, hp H M1)) ∧ X 100 mr lr (n, z, hp H M1) = some (some (.int (jI u)), (n, z, hp H M2)) ∧ World M2
section
variable {n z : Nat} {H : Nat → AC} {M M' : Me} {T : TT} {s : Ss} {hs : List Ss} {Nn : Nat → Nat → List Nat} {R : Nat} {f : Int → Int} {k : Nat} {g : Int → Int} {fa fb x : Int} {v : Int → Int} {B : List Int}
theorem quiet {ma mr : Nat} {la lr : List Value} {u : Int} (hC : WC M T s hs Nn R f k g fa fb x v B) (hD : WD M T s hs Nn R f k g fa fb x v B) (hP : WP T s hs Nn R f k g x B) (c : ∃ M1, X 100 ma la (n, z, hp H M) = some (some (.int (jI u)), (n, z, hp H M1)) ∧ KC M M1) (r : ∀ M1, WD M1 T s hs Nn R f k g fa fb x v B → ∃ M2, X 100 mr lr (n, z, hp H M1) = some (some (.int (jI u)), (n, z, hp H M2)) ∧ KR M1 M2) : Pair n z H ma mr la lr M := by
  obtain ⟨M1, e1, K1⟩ := c
  have hC1 := WC_KC hC K1
  have hD1 := WD_side hD (KC_hi K1)
  obtain ⟨M2, e2, K2⟩ := r M1 hD1
  exact ⟨u, M1, M2, e1, e2, T, s, hs, Nn, R, f, k, g, fa, fb, x, v, B, WC_side hC1 (KR_lo K2), WD_KR hP.1 hD1 K2, hP⟩
end
section
variable {n z : Nat} {H : Nat → AC} {M : Me}
theorem w_feels (hH : Hk H) (h : World M) {p m w : Int} (p_0 : -2147483648 ≤ p) (p_1 : p < 2147483648) (m_0 : -2147483648 ≤ m) (m_1 : m < 2147483648) (w_0 : -2147483648 ≤ w) (w_1 : w < 2147483648) : Pair n z H 96 199 [.ref 8, .int (jI p), .int (jI m), .int (jI w)] [.ref 218, .int (jI p), .int (jI m), .int (jI w)] M := by
  obtain ⟨T, s, hs, Nn, R, f, k, g, fa, fb, x, v, B, hC, hD, hP⟩ := h
  obtain ⟨wT, wS, wH, wN, wF, wk, wb, wx, wB⟩ := id hP
  obtain ⟨t, t', hB, c2, c3, c4, c5, c6, c7, c8, c9, c10, c11⟩ := id hC
  exact quiet hC hD hP (⟨M, c_feels hB wT wS p_0 p_1 m_0 m_1 w_0 w_1 97, KC_refl hB⟩) (fun M1 hD1 => ⟨M1, r_feels hD1.1 wT wS p_0 p_1 m_0 m_1 w_0 w_1 97, KR_refl M1⟩)
theorem w_bread (hH : Hk H) (h : World M) {l m : Int} (l_0 : -2147483648 ≤ l) (l_1 : l < 2147483648) (m_0 : -2147483648 ≤ m) (m_1 : m < 2147483648) : Pair n z H 97 200 [.ref 8, .int (jI l), .int (jI m)] [.ref 218, .int (jI l), .int (jI m)] M := by
  obtain ⟨T, s, hs, Nn, R, f, k, g, fa, fb, x, v, B, hC, hD, hP⟩ := h
  obtain ⟨wT, wS, wH, wN, wF, wk, wb, wx, wB⟩ := id hP
  obtain ⟨t, t', hB, c2, c3, c4, c5, c6, c7, c8, c9, c10, c11⟩ := id hC
  exact quiet hC hD hP (⟨M, c_bread hB wT wS l_0 l_1 m_0 m_1 97, KC_refl hB⟩) (fun M1 hD1 => ⟨M1, r_bread hD1.1 wT wS l_0 l_1 m_0 m_1 97, KR_refl M1⟩)
theorem w_loaf (hH : Hk H) (h : World M) {l w : Int} (l_0 : -2147483648 ≤ l) (l_1 : l < 2147483648) (w_0 : -2147483648 ≤ w) (w_1 : w < 2147483648) : Pair n z H 98 202 [.ref 8, .int (jI l), .int (jI w)] [.ref 218, .int (jI l), .int (jI w)] M := by
  obtain ⟨T, s, hs, Nn, R, f, k, g, fa, fb, x, v, B, hC, hD, hP⟩ := h
  obtain ⟨wT, wS, wH, wN, wF, wk, wb, wx, wB⟩ := id hP
  obtain ⟨t, t', hB, c2, c3, c4, c5, c6, c7, c8, c9, c10, c11⟩ := id hC
  exact quiet hC hD hP (⟨M, c_loaf hB wT wS l_0 l_1 w_0 w_1 97, KC_refl hB⟩) (fun M1 hD1 => ⟨M1, r_loaf hD1.1 wT wS l_0 l_1 w_0 w_1 97, KR_refl M1⟩)
theorem w_does (hH : Hk H) (h : World M) {p k1 : Int} (p_0 : -2147483648 ≤ p) (p_1 : p < 2147483648) (k1_0 : -2147483648 ≤ k1) (k1_1 : k1 < 2147483648) : Pair n z H 99 203 [.ref 8, .int (jI p), .int (jI k1)] [.ref 218, .int (jI p), .int (jI k1)] M := by
  obtain ⟨T, s, hs, Nn, R, f, k, g, fa, fb, x, v, B, hC, hD, hP⟩ := h
  obtain ⟨wT, wS, wH, wN, wF, wk, wb, wx, wB⟩ := id hP
  obtain ⟨t, t', hB, c2, c3, c4, c5, c6, c7, c8, c9, c10, c11⟩ := id hC
  exact quiet hC hD hP (c_does hH hB wT wS p_0 p_1 k1_0 k1_1 94) (fun M1 hD1 => r_does hD1.1 wT wS p_0 p_1 k1_0 k1_1 94)
theorem w_later (hH : Hk H) (h : World M) {p m k1 : Int} (p_0 : -2147483648 ≤ p) (p_1 : p < 2147483648) (m_0 : -2147483648 ≤ m) (m_1 : m < 2147483648) (k1_0 : -2147483648 ≤ k1) (k1_1 : k1 < 2147483648) : Pair n z H 100 205 [.ref 8, .int (jI p), .int (jI m), .int (jI k1)] [.ref 218, .int (jI p), .int (jI m), .int (jI k1)] M := by
  obtain ⟨T, s, hs, Nn, R, f, k, g, fa, fb, x, v, B, hC, hD, hP⟩ := h
  obtain ⟨wT, wS, wH, wN, wF, wk, wb, wx, wB⟩ := id hP
  obtain ⟨t, t', hB, c2, c3, c4, c5, c6, c7, c8, c9, c10, c11⟩ := id hC
  exact quiet hC hD hP (c_later hH hB wT wS p_0 p_1 m_0 m_1 k1_0 k1_1 92) (fun M1 hD1 => r_later hD1.1 wT wS p_0 p_1 m_0 m_1 k1_0 k1_1 91)
theorem w_often (hH : Hk H) (h : World M) {p k1 m : Int} (p_0 : -2147483648 ≤ p) (p_1 : p < 2147483648) (k1_0 : -2147483648 ≤ k1) (k1_1 : k1 < 2147483648) (m_0 : -2147483648 ≤ m) (m_1 : m < 2147483648) : Pair n z H 102 208 [.ref 8, .int (jI p), .int (jI k1), .int (jI m)] [.ref 218, .int (jI p), .int (jI k1), .int (jI m)] M := by
  obtain ⟨T, s, hs, Nn, R, f, k, g, fa, fb, x, v, B, hC, hD, hP⟩ := h
  obtain ⟨wT, wS, wH, wN, wF, wk, wb, wx, wB⟩ := id hP
  obtain ⟨t, t', hB, c2, c3, c4, c5, c6, c7, c8, c9, c10, c11⟩ := id hC
  exact quiet hC hD hP (c_often hH hB wT wS p_0 p_1 k1_0 k1_1 m_0 m_1 92) (fun M1 hD1 => r_often hD1.1 wT wS p_0 p_1 k1_0 k1_1 m_0 m_1 91)
theorem w_hands (hH : Hk H) (h : World M) {l p m k1 num w : Int} (l_0 : -2147483648 ≤ l) (l_1 : l < 2147483648) (p_0 : -2147483648 ≤ p) (p_1 : p < 2147483648) (m_0 : -2147483648 ≤ m) (m_1 : m < 2147483648) (k1_0 : -2147483648 ≤ k1) (k1_1 : k1 < 2147483648) (num_0 : -2147483648 ≤ num) (num_1 : num < 2147483648) (w_0 : -2147483648 ≤ w) (w_1 : w < 2147483648) : Pair n z H 104 215 [.ref 8, .int (jI l), .int (jI p), .int (jI m), .int (jI k1), .int (jI num), .int (jI w)] [.ref 218, .int (jI l), .int (jI p), .int (jI m), .int (jI k1), .int (jI num), .int (jI w)] M := by
  obtain ⟨T, s, hs, Nn, R, f, k, g, fa, fb, x, v, B, hC, hD, hP⟩ := h
  obtain ⟨wT, wS, wH, wN, wF, wk, wb, wx, wB⟩ := id hP
  obtain ⟨t, t', hB, c2, c3, c4, c5, c6, c7, c8, c9, c10, c11⟩ := id hC
  exact quiet hC hD hP (c_hands hH hB wT wS l_0 l_1 p_0 p_1 m_0 m_1 k1_0 k1_1 num_0 num_1 w_0 w_1 92) (fun M1 hD1 => r_hands hD1.1 wT wS l_0 l_1 p_0 p_1 m_0 m_1 k1_0 k1_1 num_0 num_1 w_0 w_1 90)
theorem w_votes (hH : Hk H) (h : World M) {a b w : Int} (a_0 : -2147483648 ≤ a) (a_1 : a < 2147483648) (b_0 : -2147483648 ≤ b) (b_1 : b < 2147483648) (w_0 : -2147483648 ≤ w) (w_1 : w < 2147483648) : Pair n z H 107 219 [.ref 8, .int (jI a), .int (jI b), .int (jI w)] [.ref 218, .int (jI a), .int (jI b), .int (jI w)] M := by
  obtain ⟨T, s, hs, Nn, R, f, k, g, fa, fb, x, v, B, hC, hD, hP⟩ := h
  obtain ⟨wT, wS, wH, wN, wF, wk, wb, wx, wB⟩ := id hP
  obtain ⟨t, t', hB, c2, c3, c4, c5, c6, c7, c8, c9, c10, c11⟩ := id hC
  exact quiet hC hD hP (⟨M, c_votes hB wT wS a_0 a_1 b_0 b_1 w_0 w_1 97, KC_refl hB⟩) (fun M1 hD1 => ⟨M1, r_votes hD1.1 wT wS a_0 a_1 b_0 b_1 w_0 w_1 97, KR_refl M1⟩)
theorem w_blend (hH : Hk H) (h : World M) {a b m num w : Int} (a_0 : -2147483648 ≤ a) (a_1 : a < 2147483648) (b_0 : -2147483648 ≤ b) (b_1 : b < 2147483648) (m_0 : -2147483648 ≤ m) (m_1 : m < 2147483648) (num_0 : -2147483648 ≤ num) (num_1 : num < 2147483648) (w_0 : -2147483648 ≤ w) (w_1 : w < 2147483648) : Pair n z H 105 216 [.ref 8, .int (jI a), .int (jI b), .int (jI m), .int (jI num), .int (jI w)] [.ref 218, .int (jI a), .int (jI b), .int (jI m), .int (jI num), .int (jI w)] M := by
  obtain ⟨T, s, hs, Nn, R, f, k, g, fa, fb, x, v, B, hC, hD, hP⟩ := h
  obtain ⟨wT, wS, wH, wN, wF, wk, wb, wx, wB⟩ := id hP
  obtain ⟨t, t', hB, c2, c3, c4, c5, c6, c7, c8, c9, c10, c11⟩ := id hC
  exact quiet hC hD hP (⟨M, c_blend hB wT wS a_0 a_1 b_0 b_1 m_0 m_1 num_0 num_1 w_0 w_1 97, KC_refl hB⟩) (fun M1 hD1 => ⟨M1, r_blend hD1.1 wT wS a_0 a_1 b_0 b_1 m_0 m_1 num_0 num_1 w_0 w_1 97, KR_refl M1⟩)
theorem w_left (hH : Hk H) (h : World M) {l p k1 : Int} (l_0 : -2147483648 ≤ l) (l_1 : l < 2147483648) (p_0 : -2147483648 ≤ p) (p_1 : p < 2147483648) (k1_0 : -2147483648 ≤ k1) (k1_1 : k1 < 2147483648) : Pair n z H 106 217 [.ref 8, .int (jI l), .int (jI p), .int (jI k1)] [.ref 218, .int (jI l), .int (jI p), .int (jI k1)] M := by
  obtain ⟨T, s, hs, Nn, R, f, k, g, fa, fb, x, v, B, hC, hD, hP⟩ := h
  obtain ⟨wT, wS, wH, wN, wF, wk, wb, wx, wB⟩ := id hP
  obtain ⟨t, t', hB, c2, c3, c4, c5, c6, c7, c8, c9, c10, c11⟩ := id hC
  exact quiet hC hD hP (⟨M, c_left hB wT wS l_0 l_1 p_0 p_1 k1_0 k1_1 97, KC_refl hB⟩) (fun M1 hD1 => ⟨M1, r_left hD1.1 wT wS l_0 l_1 p_0 p_1 k1_0 k1_1 97, KR_refl M1⟩)
theorem w_letter (hH : Hk H) (h : World M) {kind j k1 : Int} (kind_0 : -2147483648 ≤ kind) (kind_1 : kind < 2147483648) (j_0 : -2147483648 ≤ j) (j_1 : j < 2147483648) (k1_0 : -2147483648 ≤ k1) (k1_1 : k1 < 2147483648) : Pair n z H 95 198 [.ref 8, .int (jI kind), .int (jI j), .int (jI k1)] [.ref 218, .int (jI kind), .int (jI j), .int (jI k1)] M := by
  obtain ⟨T, s, hs, Nn, R, f, k, g, fa, fb, x, v, B, hC, hD, hP⟩ := h
  obtain ⟨wT, wS, wH, wN, wF, wk, wb, wx, wB⟩ := id hP
  obtain ⟨t, t', hB, c2, c3, c4, c5, c6, c7, c8, c9, c10, c11⟩ := id hC
  exact quiet hC hD hP ⟨M, c_letter hB wT wS c3 kind_0 kind_1 j_0 j_1 k1_0 k1_1 97, KC_refl hB⟩ (fun M1 hD1 => ⟨M1, r_letter hD1.1 wT wS wN hD1.2.2.1 kind_0 kind_1 j_0 j_1 k1_0 k1_1 97, KR_refl M1⟩)
theorem w_has (hH : Hk H) (h : World M) {w : Int} (w_0 : -2147483648 ≤ w) (w_1 : w < 2147483648) : Pair n z H 94 197 [.ref 8, .int (jI w)] [.ref 218, .int (jI w)] M := by
  obtain ⟨T, s, hs, Nn, R, f, k, g, fa, fb, x, v, B, hC, hD, hP⟩ := h
  obtain ⟨wT, wS, wH, wN, wF, wk, wb, wx, wB⟩ := id hP
  obtain ⟨t, t', hB, c2, c3, c4, c5, c6, c7, c8, c9, c10, c11⟩ := id hC
  have hc := c_has (n := n) (z := z) hH hB wT wS w_0 w_1 93
  rw [c4.1.1, c2.1.1] at hc
  exact quiet hC hD hP hc (fun M1 hD1 => by
    have hr := r_has (n := n) (z := z) (H := H) hD1.1 wT wS w_0 w_1 92
    rw [hD1.2.2.2.1.1.1, hD1.2.1.1.1] at hr
    exact hr)
theorem w_first (hH : Hk H) (h : World M) {w : Int} (w_0 : -2147483648 ≤ w) (w_1 : w < 2147483648) : Pair n z H 101 207 [.ref 8, .int (jI w)] [.ref 218, .int (jI w)] M := by
  obtain ⟨T, s, hs, Nn, R, f, k, g, fa, fb, x, v, B, hC, hD, hP⟩ := h
  obtain ⟨wT, wS, wH, wN, wF, wk, wb, wx, wB⟩ := id hP
  obtain ⟨t, t', hB, c2, c3, c4, c5, c6, c7, c8, c9, c10, c11⟩ := id hC
  obtain ⟨a1, M1, e1, K1, F1⟩ := c_first (n := n) (z := z) hH hB wT wS w_0 w_1 92
  exact quiet hC hD hP ⟨M1, e1, K1⟩ (fun M1 hD1 => by
    obtain ⟨a2, M2, e2, K2, F2⟩ := r_first (n := n) (z := z) (H := H) hD1.1 wT wS w_0 w_1 92
    rw [FV_uniq F1 F2]
    exact ⟨M2, e2, K2⟩)
theorem w_again (hH : Hk H) (h : World M) {w : Int} (w_0 : -2147483648 ≤ w) (w_1 : w < 2147483648) : Pair n z H 103 210 [.ref 8, .int (jI w)] [.ref 218, .int (jI w)] M := by
  obtain ⟨T, s, hs, Nn, R, f, k, g, fa, fb, x, v, B, hC, hD, hP⟩ := h
  obtain ⟨wT, wS, wH, wN, wF, wk, wb, wx, wB⟩ := id hP
  obtain ⟨t, t', hB, c2, c3, c4, c5, c6, c7, c8, c9, c10, c11⟩ := id hC
  obtain ⟨a1, M1, e1, K1, F1⟩ := c_again (n := n) (z := z) hH hB wT wS w_0 w_1 92
  exact quiet hC hD hP ⟨M1, e1, K1⟩ (fun M1 hD1 => by
    obtain ⟨a2, M2, e2, K2, F2⟩ := r_again (n := n) (z := z) (H := H) hD1.1 wT wS w_0 w_1 91
    rw [AV_uniq F1 F2]
    exact ⟨M2, e2, K2⟩)
theorem w_kneaders (hH : Hk H) (h : World M) {l w : Int} (l_0 : -2147483648 ≤ l) (l_1 : l < 2147483648) (w_0 : -2147483648 ≤ w) (w_1 : w < 2147483648) : Pair n z H 115 234 [.ref 8, .int (jI l), .int (jI w)] [.ref 218, .int (jI l), .int (jI w)] M := by
  obtain ⟨T, s, hs, Nn, R, f, k, g, fa, fb, x, v, B, hC, hD, hP⟩ := h
  obtain ⟨wT, wS, wH, wN, wF, wk, wb, wx, wB⟩ := id hP
  obtain ⟨t, t', hB, c2, c3, c4, c5, c6, c7, c8, c9, c10, c11⟩ := id hC
  exact quiet hC hD hP (c_kneaders hH hB wT wS c4 wF l_0 l_1 w_0 w_1 91) (fun M1 hD1 => r_kneaders hD1.1 wT wS hD1.2.2.2.1 wF l_0 l_1 w_0 w_1 91)
theorem w_look (hH : Hk H) (h : World M) {l m w : Int} (l_0 : -2147483648 ≤ l) (l_1 : l < 2147483648) (m_0 : -2147483648 ≤ m) (m_1 : m < 2147483648) (w_0 : -2147483648 ≤ w) (w_1 : w < 2147483648) : Pair n z H 116 237 [.ref 8, .int (jI l), .int (jI m), .int (jI w)] [.ref 218, .int (jI l), .int (jI m), .int (jI w)] M := by
  obtain ⟨T, s, hs, Nn, R, f, k, g, fa, fb, x, v, B, hC, hD, hP⟩ := h
  obtain ⟨wT, wS, wH, wN, wF, wk, wb, wx, wB⟩ := id hP
  obtain ⟨t, t', hB, c2, c3, c4, c5, c6, c7, c8, c9, c10, c11⟩ := id hC
  exact quiet hC hD hP (c_look hH hB wT wS c4 wF l_0 l_1 m_0 m_1 w_0 w_1 91) (fun M1 hD1 => r_look hD1.1 wT wS hD1.2.2.2.1 wF l_0 l_1 m_0 m_1 w_0 w_1 90)
theorem w_fault (hH : Hk H) (h : World M) {w : Int} (w_0 : -2147483648 ≤ w) (w_1 : w < 2147483648) : Pair n z H 93 169 [.ref 8, .int (jI w)] [.ref 218, .int (jI w)] M := by
  obtain ⟨T, s, hs, Nn, R, f, k, g, fa, fb, x, v, B, hC, hD, hP⟩ := h
  obtain ⟨wT, wS, wH, wN, wF, wk, wb, wx, wB⟩ := id hP
  obtain ⟨t, t', hB, c2, c3, c4, c5, c6, c7, c8, c9, c10, c11⟩ := id hC
  have hc := c_fault (n := n) (z := z) (H := H) (M := M) (d := 97) w_0 w_1
  rw [c8.1, c8.2] at hc
  exact quiet hC hD hP ⟨M, hc, KC_refl hB⟩ (fun M1 hD1 => by
    have hr := r_fault (n := n) (z := z) (H := H) (M := M1) (d := 97) w_0 w_1
    rw [hD1.2.2.2.2.2.2.1.1, hD1.2.2.2.2.2.2.1.2] at hr
    exact ⟨M1, hr, KR_refl M1⟩)
theorem w_status (hH : Hk H) (h : World M) {w : Int} (w_0 : -2147483648 ≤ w) (w_1 : w < 2147483648) : Pair n z H 121 274 [.ref 8, .int (jI w)] [.ref 218, .int (jI w)] M := by
  obtain ⟨T, s, hs, Nn, R, f, k, g, fa, fb, x, v, B, hC, hD, hP⟩ := h
  obtain ⟨wT, wS, wH, wN, wF, wk, wb, wx, wB⟩ := id hP
  obtain ⟨t, t', hB, c2, c3, c4, c5, c6, c7, c8, c9, c10, c11⟩ := id hC
  have hc := c_status (n := n) (z := z) (H := H) (M := M) (d := 97) w_0 w_1
  rw [show (if 0 ≤ w ∧ w < 6 then M 172 w else -1) = (if 0 ≤ w ∧ w < 6 then v w else -1) by
    split
    · exact c10 w (by omega) (by omega)
    · rfl] at hc
  exact quiet hC hD hP ⟨M, hc, KC_refl hB⟩ (fun M1 hD1 => by
    have hr := r_status (n := n) (z := z) (H := H) (M := M1) (d := 97) w_0 w_1
    rw [show (if 0 ≤ w ∧ w < 6 then M1 220 w else -1) = (if 0 ≤ w ∧ w < 6 then v w else -1) by
      split
      · exact hD1.2.2.2.2.2.2.2.2.1 w (by omega) (by omega)
      · rfl] at hr
    exact ⟨M1, hr, KR_refl M1⟩)
theorem LSq_at {a b : Nat} {i : Int} {B : List Int} (h : LSq M a i b B) {w : Int} : (if 0 ≤ w ∧ w < M a i then M b w else -1) = (if 0 ≤ w ∧ w < (B.length : Nat) then B.getD w.toNat 0 else -1) := by
  rw [h.1]
  by_cases q : 0 ≤ w ∧ w < (B.length : Nat)
  · rw [if_pos q, if_pos q]
    have hl : w.toNat < B.length := by omega
    have := h.2 w.toNat B[w.toNat] (List.getElem?_eq_getElem hl)
    rw [Int.toNat_of_nonneg q.1] at this
    rw [this, List.getD_eq_getElem?_getD, List.getElem?_eq_getElem hl]
    rfl
  · rw [if_neg q, if_neg q]
theorem w_octet (hH : Hk H) (h : World M) {w : Int} (w_0 : -2147483648 ≤ w) (w_1 : w < 2147483648) : Pair n z H 119 270 [.ref 8, .int (jI w)] [.ref 218, .int (jI w)] M := by
  obtain ⟨T, s, hs, Nn, R, f, k, g, fa, fb, x, v, B, hC, hD, hP⟩ := h
  obtain ⟨wT, wS, wH, wN, wF, wk, wb, wx, wB⟩ := id hP
  obtain ⟨t, t', hB, c2, c3, c4, c5, c6, c7, c8, c9, c10, c11⟩ := id hC
  have hc := c_octet (n := n) (z := z) (H := H) (M := M) (d := 97) w_0 w_1 (by rw [c11.1]; omega) (by rw [c11.1]; omega)
  rw [LSq_at c11] at hc
  exact quiet hC hD hP ⟨M, hc, KC_refl hB⟩ (fun M1 hD1 => by
    have hI := hD1.2.2.2.2.2.2.2.2.2.1
    have hr := r_octet (n := n) (z := z) (H := H) (M := M1) (d := 97) w_0 w_1 (by rw [hI.1]; omega) (by rw [hI.1]; omega)
    rw [LSq_at hI] at hr
    exact ⟨M1, hr, KR_refl M1⟩)
end

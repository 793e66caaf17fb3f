/-! a town told: moods, people, meals: the reference -/
def RC0 (M : Me) (w : Int) (cs : List Nat) (s : Nat) : Prop := (cs = [] ∧ M 256 w = -1) ∨ (¬ cs = [] ∧ 0 ≤ M 256 w ∧ M 257 w = M 256 w + cs.length ∧ M 257 w ≤ s ∧ cdM (M 258) (M 256 w) (cs.map qc))
def BDR (M : Me) (B : BT) (s : Nat) : Prop := (∀ p m : Int, 0 ≤ p → p < np B.1 → 0 ≤ m → m < nm B.1 → M 252 (4 * p + m) = B.2.2.1 p m) ∧ (∀ l : Int, 0 ≤ l → l < nl B.1 → M 253 (2 * l) = tlv B.1 l ∧ M 253 (2 * l + 1) = B.2.2.2 l) ∧ (∀ i : Int, 0 ≤ i → i < ne B.1 → M 254 (3 * i) = tea B.1 i ∧ M 254 (3 * i + 1) = ten B.1 i ∧ M 254 (3 * i + 2) = tmc B.1 i) ∧ (M 218 49 = s ∧ RC0 M 0 (tc B.1 6) s ∧ RC0 M 1 (tc B.1 7) s ∧ ∀ d : Nat, d < nd B.1 → RC0 M (2 + d) (tc B.1 d) s) ∧ (M 255 0 = tbak B.1 ∧ M 255 1 = tev B.1 ∧ M 255 2 = twh B.1)
theorem BDR_keep {M M' : Me} {B : BT} {s : Nat} (h : BDR M B s) (hF : ∀ b, 252 ≤ b → b ≤ 258 → M' b = M b) (h0 : M' 218 49 = M 218 49) : BDR M' B s := by
  unfold BDR RC0 at h ⊢
  rw [hF 252 (by omega) (by omega), hF 253 (by omega) (by omega), hF 254 (by omega) (by omega), hF 255 (by omega) (by omega), hF 256 (by omega) (by omega), hF 257 (by omega) (by omega), hF 258 (by omega) (by omega), h0]
  exact h
/-- what reading a town may write -/
def okW (b : Nat) (i : Int) : Prop := (b = 218 ∧ (i = 2 ∨ i = 4 ∨ i = 5 ∨ i = 6 ∨ i = 39 ∨ i = 49 ∨ i = 51 ∨ i = 92 ∨ i = 94 ∨ i = 95 ∨ i = 96)) ∨ (b = 250 ∧ i < 5) ∨ (b = 251 ∧ i < 32) ∨ (b = 252 ∧ i < 32) ∨ (b = 253 ∧ i < 12) ∨ (b = 254 ∧ i < 48) ∨ (b = 255 ∧ i < 3) ∨ (b = 256 ∧ i < 8) ∨ (b = 257 ∧ i < 8) ∨ (b = 258 ∧ i < 1600) ∨ b = 288 ∨ b = 289
def KW (M M' : Me) : Prop := ∀ b i, ¬ okW b i → M' b i = M b i
theorem KW_refl (M : Me) : KW M M := fun _ _ _ => rfl
theorem KW_trans {M M' M'' : Me} (h : KW M M') (h' : KW M' M'') : KW M M'' := fun b i hb => (h' b i hb).trans (h b i hb)
theorem KW_st {M M' : Me} (h : KW M M') {b : Nat} {i v : Int} (hw : okW b i) : KW M (st M' b i v) := fun b' i' hb => by
  by_cases q : b' = b
  · subst q
    rw [st_self]
    by_cases q2 : i' = i
    · subst q2; exact absurd hw hb
    · rw [su_ne _ _ q2]; exact h _ _ hb
  · rw [st_ne _ _ _ q]; exact h _ _ hb
theorem okW_218 {i : Int} (h : i = 2 ∨ i = 4 ∨ i = 5 ∨ i = 6 ∨ i = 39 ∨ i = 49 ∨ i = 51 ∨ i = 92 ∨ i = 94 ∨ i = 95 ∨ i = 96) : okW 218 i := Or.inl ⟨rfl, h⟩
theorem okW_250 {i : Int} (h : i < 5) : okW 250 i := Or.inr (Or.inl ⟨rfl, h⟩)
theorem okW_251 {i : Int} (h : i < 32) : okW 251 i := Or.inr (Or.inr (Or.inl ⟨rfl, h⟩))
theorem okW_252 {i : Int} (h : i < 32) : okW 252 i := Or.inr (Or.inr (Or.inr (Or.inl ⟨rfl, h⟩)))
theorem okW_253 {i : Int} (h : i < 12) : okW 253 i := Or.inr (Or.inr (Or.inr (Or.inr (Or.inl ⟨rfl, h⟩))))
theorem okW_254 {i : Int} (h : i < 48) : okW 254 i := Or.inr (Or.inr (Or.inr (Or.inr (Or.inr (Or.inl ⟨rfl, h⟩)))))
theorem okW_255 {i : Int} (h : i < 3) : okW 255 i := Or.inr (Or.inr (Or.inr (Or.inr (Or.inr (Or.inr (Or.inl ⟨rfl, h⟩))))))
theorem okW_256 {i : Int} (h : i < 8) : okW 256 i := Or.inr (Or.inr (Or.inr (Or.inr (Or.inr (Or.inr (Or.inr (Or.inl ⟨rfl, h⟩)))))))
theorem okW_257 {i : Int} (h : i < 8) : okW 257 i := Or.inr (Or.inr (Or.inr (Or.inr (Or.inr (Or.inr (Or.inr (Or.inr (Or.inl ⟨rfl, h⟩))))))))
theorem okW_258 {i : Int} (h : i < 1600) : okW 258 i := Or.inr (Or.inr (Or.inr (Or.inr (Or.inr (Or.inr (Or.inr (Or.inr (Or.inr (Or.inl ⟨rfl, h⟩)))))))))
theorem okW_288 (i : Int) : okW 288 i := Or.inr (Or.inr (Or.inr (Or.inr (Or.inr (Or.inr (Or.inr (Or.inr (Or.inr (Or.inr (Or.inl rfl))))))))))
theorem okW_289 (i : Int) : okW 289 i := Or.inr (Or.inr (Or.inr (Or.inr (Or.inr (Or.inr (Or.inr (Or.inr (Or.inr (Or.inr (Or.inr rfl))))))))))
theorem noW {b : Nat} {i : Int} (h : ¬ (b = 218 ∨ (250 ≤ b ∧ b ≤ 258) ∨ b = 288 ∨ b = 289)) : ¬ okW b i := by
  rintro (⟨e, -⟩ | ⟨e, -⟩ | ⟨e, -⟩ | ⟨e, -⟩ | ⟨e, -⟩ | ⟨e, -⟩ | ⟨e, -⟩ | ⟨e, -⟩ | ⟨e, -⟩ | ⟨e, -⟩ | e | e) <;> (apply h; subst e; decide)
theorem noW_218 {i : Int} (h : ¬ (i = 2 ∨ i = 4 ∨ i = 5 ∨ i = 6 ∨ i = 39 ∨ i = 49 ∨ i = 51 ∨ i = 92 ∨ i = 94 ∨ i = 95 ∨ i = 96)) : ¬ okW 218 i := by
  rintro (⟨-, e⟩ | ⟨e, -⟩ | ⟨e, -⟩ | ⟨e, -⟩ | ⟨e, -⟩ | ⟨e, -⟩ | ⟨e, -⟩ | ⟨e, -⟩ | ⟨e, -⟩ | ⟨e, -⟩ | e | e)
  · exact h e
  all_goals exact absurd e (by decide)
theorem noW_250 {i : Int} (h : 5 ≤ i) : ¬ okW 250 i := by
  rintro (⟨e, -⟩ | ⟨-, e⟩ | ⟨e, -⟩ | ⟨e, -⟩ | ⟨e, -⟩ | ⟨e, -⟩ | ⟨e, -⟩ | ⟨e, -⟩ | ⟨e, -⟩ | ⟨e, -⟩ | e | e)
  all_goals first | exact absurd e (by decide) | omega
theorem noW_251 {i : Int} (h : 32 ≤ i) : ¬ okW 251 i := by
  rintro (⟨e, -⟩ | ⟨e, -⟩ | ⟨-, e⟩ | ⟨e, -⟩ | ⟨e, -⟩ | ⟨e, -⟩ | ⟨e, -⟩ | ⟨e, -⟩ | ⟨e, -⟩ | ⟨e, -⟩ | e | e)
  all_goals first | exact absurd e (by decide) | omega
theorem noW_252 {i : Int} (h : 32 ≤ i) : ¬ okW 252 i := by
  rintro (⟨e, -⟩ | ⟨e, -⟩ | ⟨e, -⟩ | ⟨-, e⟩ | ⟨e, -⟩ | ⟨e, -⟩ | ⟨e, -⟩ | ⟨e, -⟩ | ⟨e, -⟩ | ⟨e, -⟩ | e | e)
  all_goals first | exact absurd e (by decide) | omega
theorem noW_253 {i : Int} (h : 12 ≤ i) : ¬ okW 253 i := by
  rintro (⟨e, -⟩ | ⟨e, -⟩ | ⟨e, -⟩ | ⟨e, -⟩ | ⟨-, e⟩ | ⟨e, -⟩ | ⟨e, -⟩ | ⟨e, -⟩ | ⟨e, -⟩ | ⟨e, -⟩ | e | e)
  all_goals first | exact absurd e (by decide) | omega
theorem noW_254 {i : Int} (h : 48 ≤ i) : ¬ okW 254 i := by
  rintro (⟨e, -⟩ | ⟨e, -⟩ | ⟨e, -⟩ | ⟨e, -⟩ | ⟨e, -⟩ | ⟨-, e⟩ | ⟨e, -⟩ | ⟨e, -⟩ | ⟨e, -⟩ | ⟨e, -⟩ | e | e)
  all_goals first | exact absurd e (by decide) | omega
theorem noW_255 {i : Int} (h : 3 ≤ i) : ¬ okW 255 i := by
  rintro (⟨e, -⟩ | ⟨e, -⟩ | ⟨e, -⟩ | ⟨e, -⟩ | ⟨e, -⟩ | ⟨e, -⟩ | ⟨-, e⟩ | ⟨e, -⟩ | ⟨e, -⟩ | ⟨e, -⟩ | e | e)
  all_goals first | exact absurd e (by decide) | omega
theorem noW_256 {i : Int} (h : 8 ≤ i) : ¬ okW 256 i := by
  rintro (⟨e, -⟩ | ⟨e, -⟩ | ⟨e, -⟩ | ⟨e, -⟩ | ⟨e, -⟩ | ⟨e, -⟩ | ⟨e, -⟩ | ⟨-, e⟩ | ⟨e, -⟩ | ⟨e, -⟩ | e | e)
  all_goals first | exact absurd e (by decide) | omega
theorem noW_257 {i : Int} (h : 8 ≤ i) : ¬ okW 257 i := by
  rintro (⟨e, -⟩ | ⟨e, -⟩ | ⟨e, -⟩ | ⟨e, -⟩ | ⟨e, -⟩ | ⟨e, -⟩ | ⟨e, -⟩ | ⟨e, -⟩ | ⟨-, e⟩ | ⟨e, -⟩ | e | e)
  all_goals first | exact absurd e (by decide) | omega
theorem noW_258 {i : Int} (h : 1600 ≤ i) : ¬ okW 258 i := by
  rintro (⟨e, -⟩ | ⟨e, -⟩ | ⟨e, -⟩ | ⟨e, -⟩ | ⟨e, -⟩ | ⟨e, -⟩ | ⟨e, -⟩ | ⟨e, -⟩ | ⟨e, -⟩ | ⟨-, e⟩ | e | e)
  all_goals first | exact absurd e (by decide) | omega
theorem KW_2 {M M' : Me} (h : KN2 M M') : KW M M' := fun b i hb => by
  by_cases q : b = 218
  · subst q
    exact h.2 i (fun hi => hb (okW_218 (by rcases hi with rfl | rfl | rfl | rfl | rfl <;> decide)))
  · rw [h.1 b q]
theorem KW_T {M M' : Me} (h : KT M M') : KW M M' := KW_2 (KN2_T h)
theorem KW_B {M M' : Me} (h : KB M M') : KW M M' := fun b i hb => by
  by_cases q : b = 218
  · subst q
    exact h.2 i (fun hi => hb (okW_218 (by rcases hi with rfl | rfl | rfl | rfl | rfl | rfl | rfl | rfl <;> decide)))
  · by_cases q2 : b = 288
    · subst q2
      exact absurd (okW_288 i) hb
    · by_cases q3 : b = 289
      · subst q3
        exact absurd (okW_289 i) hb
      · rw [h.1 b (by rintro (h | h | h) <;> contradiction)]
theorem KW_out {M M' : Me} (h : KW M M') {b : Nat} (hb : ¬ (b = 218 ∨ (250 ≤ b ∧ b ≤ 258) ∨ b = 288 ∨ b = 289)) : M' b = M b := by
  funext i
  exact h b i (noW hb)
theorem KW_n {M M' : Me} (F1 : ∀ b, ¬ (b = 218 ∨ b = 252) → M' b = M b) (F2 : ∀ i, ¬ (i = 2 ∨ i = 4 ∨ i = 5 ∨ i = 6) → M' 218 i = M 218 i) (F3 : ∀ i, 32 ≤ i → M' 252 i = M 252 i) : KW M M' := fun b i hb => by
  by_cases q : b = 218
  · subst q
    exact F2 i (fun hi => hb (okW_218 (by rcases hi with rfl | rfl | rfl | rfl <;> decide)))
  · by_cases q2 : b = 252
    · subst q2
      rcases Int.lt_or_le i 32 with h | h
      · exact absurd (okW_252 h) hb
      · exact F3 i h
    · rw [F1 b (by rintro (h | h) <;> contradiction)]
theorem WK_W {M M' : Me} (h : WK M) (k : KW M M') : WK M' := by
  intro p hpw i hi
  have q : ∀ p ∈ wcL, ¬ (p.1 = 218 ∨ (250 ≤ p.1 ∧ p.1 ≤ 258) ∨ p.1 = 288 ∨ p.1 = 289) := by decide +kernel
  rw [KW_out k (q p hpw)]
  exact h p hpw i hi
/-- how a statement ends -/
def PtR (g : Int → Int) (k : Nat) (r : (Ps × BT) ⊕ Fz) (M' : Me) : Prop := match r with
  | .inl (q, B) => PQ g k q.1 q.2 M' ∧ CNR M' B ∧ ∃ s, s ≤ q.1 ∧ BDR M' B s
  | .inr x => FL M' x.1 x.2 ∧ 1 ≤ x.1 ∧ x.1 < 100
section
variable {n z : Nat} {H : Nat → AC} {M : Me} {g : Int → Int} {k e : Nat} {nb : Bool}
theorem PQ_fr {M' : Me} (h : PQ g k e nb M) (h1 : M' 218 = M 218) (h2 : M' 219 = M 219) : PQ g k e nb M' := by
  unfold PQ at h ⊢
  rw [h1, h2]
  exact h
theorem fl5 (M : Me) (a p : Int) : (st (st M 218 5 a) 218 6 p) 218 5 = a := by rw [st_self, su_ne _ _ (by omega), st_self, su_self]
theorem flFL (M : Me) (a p : Int) : FL (st (st M 218 5 a) 218 6 p) a p := ⟨fl5 M a p, by rw [st_self, su_self]⟩
theorem KN2_fl {M' : Me} (h : KN2 M M') (a p : Int) : KN2 M (st (st M' 218 5 a) 218 6 p) := KN2_st (KN2_st h (by omega)) (by omega)
theorem KN2_refl (M : Me) : KN2 M M := ⟨fun _ _ => rfl, fun _ _ => rfl⟩
set_option maxHeartbeats 4000000 in
theorem m_moodTold {s : Nat} {B : BT} (hb : Byt g k) (hk : k ≤ 1600) (he : e ≤ k) (hj : tkJ g k e nb = 1) (hP : PQ g k (tkQ g k e) (nxB g k e nb) M) (hWK : WK M) (hC : CNR M B) (hD : BDR M B s) (hB : bdB B) (hs : s ≤ e) (d : Nat) : ∃ M' : Me, X (d + 6) 157 [.ref 218, .int (jI (skp g k e : Nat))] (n, z, hp H M) = some (none, (n, z, hp H M')) ∧ KW M M' ∧ PtR g k (moF g k (e, nb) B) M' := by
  refine ex_of fun G hG => ?_
  obtain ⟨w1, w2, w3, w4, w5⟩ := id hB
  have hn := nx_P (g := g) (k := k) (p := (e, nb)) he hj (by omega) (by omega)
  have hn1 : e < tkQ g k e := hn.1
  have hnQ : tkQ g k e ≤ k := hn.2
  have y5 : M 218 5 = 0 := hP.2.2.2.2.1
  have c0 : M 250 0 = (nm B.1 : Nat) := (hC.1 0 (by omega)).1
  have c1 : M 250 1 = (np B.1 : Nat) := (hC.1 1 (by omega)).1
  rw [Xe_X12_moodTold]
  unfold moF at hG
  by_cases q : 0 < np B.1
  · rw [if_pos q] at hG
    have ff := m_fail0 (n := n) (z := z) (H := H) (M := M) (a := 5) (p := (skp g k e : Nat)) y5 (d + 4)
    have ef := m_isFull1 (n := n) (z := z) (H := H) (M := st (st M 218 5 5) 218 6 (skp g k e : Nat)) (kind := 0) (room := 4) (p := (skp g k e : Nat)) (by rw [fl5]; omega) (by rw [fl5]; omega) (by rw [fl5]; omega) (d + 4)
    have r := hG _ ⟨KW_2 (KN2_fl (KN2_refl M) 5 (skp g k e : Nat)), flFL _ _ _, by omega, by omega⟩
    simp (disch := omega) only [Rm_aload_n (k := 0) rfl dX12_moodTold_0, Rm_getfield fl_12_242 dX12_moodTold_1, Rn_if_ne (t := 22) rfl dX12_moodTold_4, Rm_aload_n (k := 0) rfl dX12_moodTold_7, Rm_getfield fl_12_108 dX12_moodTold_8, Rn_iconst (v := jI (1)) rfl dX12_moodTold_11, Rm_iaload dX12_moodTold_12, Rn_if_le (t := 22) rfl dX12_moodTold_13, Rm_aload_n (k := 0) rfl dX12_moodTold_16, Rn_iconst (v := jI (5)) rfl dX12_moodTold_17, Rm_iload_n (k := 1) rfl dX12_moodTold_18, Rm_inV2 (d := dX12_moodTold_19) (hy := mo_139) (h13 := rfl) ml_12_272 rfl, Rm_aload_n (k := 0) rfl dX12_moodTold_22, Rn_iconst (v := jI (0)) rfl dX12_moodTold_23, Rn_iconst (v := jI (4)) rfl dX12_moodTold_24, Rm_iload_n (k := 1) rfl dX12_moodTold_25, Rm_inV3 (d := dX12_moodTold_26) (hy := mo_152) (h13 := rfl) ml_12_308 rfl, Rn_if_eq (t := 33) rfl dX12_moodTold_29, Rn_return rfl dX12_moodTold_32, Rm_aload_n (k := 0) rfl dX12_moodTold_33, Rn_iconst (v := jI (0)) rfl dX12_moodTold_34, Rm_aload_n (k := 0) rfl dX12_moodTold_35, Rm_inV0 (d := dX12_moodTold_36) (hy := mo_154) (h13 := rfl) ml_12_312 rfl, Rm_inV2 (d := dX12_moodTold_39) (hy := mo_156) (h13 := rfl) ml_12_315 rfl, Rn_return rfl dX12_moodTold_42, gs12_5 k218, gs12_40 k218, rdM k250 l250, wrM k250 l250, alM k250 l250, io12 k218, io12 k218, y5, c1, ff, ef, qI_s, qJ_s, qR_s, qV_s, qX_s, qN_s, qW_s, qF_s, qC_s, Option.bind_some, Option.bind_none, Nat.reduceAdd, Nat.reduceBEq, Nat.reduceEqDiff, lk_nil, lk_cons, lk_pt1, lk_pt2i, isJ_i, isJ_r, isJ_l, gI_i, gJ_i, gR_i, Bool.false_eq_true, if_true, if_false, ite_true, ite_false, ↓reduceIte, len4_0, len4_1, len4_2, len4_3, len4_4, Option.toList_some, Option.toList_none, List.cons_append, List.nil_append, va_rf_s, up_hp, ofI_j, jI_add, jI_sub, jI_mul, jI_neg, jL_add, jL_sub, jL_mul, jI_jL, jL_jI, nar_i, nar_zj, lt_t, lt_f, le_t, le_f, eq_t, eq_f, ez_t, ez_f, lz_t, lz_f, gz_t, gz_f, nz_t, nz_f, pz_t, pz_f, lgc_gt, lgc_lt, lgc_ge, lgc_le, lgc_eq, Lt_t, Lt_f, Le_t, Le_f, Eq_t, Eq_f, dv_j, not_true_eq_false, not_false_eq_true, Int.reduceEq, Int.reduceAdd, Int.reduceSub, Int.reduceMul, Int.reduceNeg, Ez_t, Ez_f, dv_L, false_and, true_and, and_true, and_false]
    exact r
  · rw [if_neg q] at hG
    have ef := m_isFull (n := n) (z := z) (H := H) (M := M) (kind := 0) (room := 4) (p := (skp g k e : Nat)) (by omega) (by omega) c0 (by omega) (by omega) (by omega) (by omega) y5 (d + 3)
    by_cases q4 : nm B.1 = 4
    · rw [if_pos (by omega)] at ef
      have hnf : newF g k 0 (e, nb) B = .inr (5, skp g k e) := by unfold newF; rw [if_pos (by show 4 ≤ nm B.1; omega)]
      rw [hnf] at hG
      have r := hG _ ⟨KW_2 (KN2_fl (KN2_refl M) 5 (skp g k e : Nat)), flFL _ _ _, by omega, by omega⟩
      simp (disch := omega) only [Rm_aload_n (k := 0) rfl dX12_moodTold_0, Rm_getfield fl_12_242 dX12_moodTold_1, Rn_if_ne (t := 22) rfl dX12_moodTold_4, Rm_aload_n (k := 0) rfl dX12_moodTold_7, Rm_getfield fl_12_108 dX12_moodTold_8, Rn_iconst (v := jI (1)) rfl dX12_moodTold_11, Rm_iaload dX12_moodTold_12, Rn_if_le (t := 22) rfl dX12_moodTold_13, Rm_aload_n (k := 0) rfl dX12_moodTold_16, Rn_iconst (v := jI (5)) rfl dX12_moodTold_17, Rm_iload_n (k := 1) rfl dX12_moodTold_18, Rm_inV2 (d := dX12_moodTold_19) (hy := mo_139) (h13 := rfl) ml_12_272 rfl, Rm_aload_n (k := 0) rfl dX12_moodTold_22, Rn_iconst (v := jI (0)) rfl dX12_moodTold_23, Rn_iconst (v := jI (4)) rfl dX12_moodTold_24, Rm_iload_n (k := 1) rfl dX12_moodTold_25, Rm_inV3 (d := dX12_moodTold_26) (hy := mo_152) (h13 := rfl) ml_12_308 rfl, Rn_if_eq (t := 33) rfl dX12_moodTold_29, Rn_return rfl dX12_moodTold_32, Rm_aload_n (k := 0) rfl dX12_moodTold_33, Rn_iconst (v := jI (0)) rfl dX12_moodTold_34, Rm_aload_n (k := 0) rfl dX12_moodTold_35, Rm_inV0 (d := dX12_moodTold_36) (hy := mo_154) (h13 := rfl) ml_12_312 rfl, Rm_inV2 (d := dX12_moodTold_39) (hy := mo_156) (h13 := rfl) ml_12_315 rfl, Rn_return rfl dX12_moodTold_42, gs12_5 k218, gs12_40 k218, rdM k250 l250, wrM k250 l250, alM k250 l250, io12 k218, io12 k218, y5, c1, ef, qI_s, qJ_s, qR_s, qV_s, qX_s, qN_s, qW_s, qF_s, qC_s, Option.bind_some, Option.bind_none, Nat.reduceAdd, Nat.reduceBEq, Nat.reduceEqDiff, lk_nil, lk_cons, lk_pt1, lk_pt2i, isJ_i, isJ_r, isJ_l, gI_i, gJ_i, gR_i, Bool.false_eq_true, if_true, if_false, ite_true, ite_false, ↓reduceIte, len4_0, len4_1, len4_2, len4_3, len4_4, Option.toList_some, Option.toList_none, List.cons_append, List.nil_append, va_rf_s, up_hp, ofI_j, jI_add, jI_sub, jI_mul, jI_neg, jL_add, jL_sub, jL_mul, jI_jL, jL_jI, nar_i, nar_zj, lt_t, lt_f, le_t, le_f, eq_t, eq_f, ez_t, ez_f, lz_t, lz_f, gz_t, gz_f, nz_t, nz_f, pz_t, pz_f, lgc_gt, lgc_lt, lgc_ge, lgc_le, lgc_eq, Lt_t, Lt_f, Le_t, Le_f, Eq_t, Eq_f, dv_j, not_true_eq_false, not_false_eq_true, Int.reduceEq, Int.reduceAdd, Int.reduceSub, Int.reduceMul, Int.reduceNeg, Ez_t, Ez_f, dv_L, false_and, true_and, and_true, and_false]
      exact r
    · rw [if_neg (by omega)] at ef
      have hnf : newF g k 0 (e, nb) B = bz (nmF g k (tkQ g k e, nxB g k e nb)) fun x => @ite _ (hasN B x.1) (Classical.propDecidable _) (.inr (3, skp g k (tkQ g k e))) (.inl x) := by unfold newF; rw [if_neg (by show ¬ 4 ≤ nm B.1; omega)]; rfl
      rw [hnf] at hG
      obtain ⟨v, M1, e1, K1, h1⟩ := m_newName (n := n) (z := z) (H := H) hb hk hnQ hP hWK hC d
      have hC1 : CNR M1 B := CNR_keep hC (K1.1 _ (by omega)) (K1.1 _ (by omega))
      unfold NwP at h1
      rcases hnm : nmF g k (tkQ g k e, nxB g k e nb) with ⟨L, q1⟩ | x
      · rw [hnm] at h1
        obtain ⟨-, b2, b3, wL, -⟩ := nmF_in (p := (tkQ g k e, nxB g k e nb)) hnQ hnm
        dsimp only at b2
        obtain ⟨rfl, h1⟩ := h1
        have hG' : ∀ M', KW M M' → PtR g k (bz (@ite _ (hasN B L) (Classical.propDecidable _) (.inr (3, skp g k (tkQ g k e)) : (List Nat × Ps) ⊕ Fz) (.inl (L, q1))) fun x => .inl (x.2, adN 0 x.1 B)) M' → G (some (none, (n, z, hp H M'))) := fun M' a b => hG M' ⟨a, by rw [hnm]; exact b⟩
        clear hG
        rcases h1 with ⟨hh, hPQ⟩ | ⟨hh, hfl⟩
        · rw [if_neg hh] at hG'
          have ei := m_isNamed (n := n) (z := z) (H := H) (kind := 0) (v := (pkF 0 L : Nat)) (by omega) hC1 (by show nm B.1 < 8; omega) hPQ.2.2.2.2.1 (d + 4)
          rw [show (((0 : Nat)) : Int) = 0 from rfl] at ei
          have r := hG' (st (st M1 251 (8 * 0 + (cntK B.1 0 : Nat)) (pkF 0 L : Nat)) 250 0 ((cntK B.1 0 : Nat) + 1)) (KW_st (KW_st (KW_2 K1) (okW_251 (by have : cntK B.1 0 ≤ 4 := w1; omega))) (okW_250 (by omega))) ⟨PQ_fr hPQ (by rw [st_ne _ _ _ (by omega), st_ne _ _ _ (by omega)]) (by rw [st_ne _ _ _ (by omega), st_ne _ _ _ (by omega)]), CNR_adN (by omega) hC1 wL (by show nm B.1 < 4; omega) (by rw [st_self, st_ne _ _ _ (by omega)]; rfl) (by rw [st_ne _ _ _ (by omega), st_self]; rfl), s, by show s ≤ q1.1; omega, by
            obtain ⟨d1, d2, d3, d4, d5⟩ := BDR_keep (M' := st (st M1 251 (8 * 0 + (cntK B.1 0 : Nat)) (pkF 0 L : Nat)) 250 0 ((cntK B.1 0 : Nat) + 1)) hD (fun b b0 b1 => by rw [st_ne _ _ _ (by omega), st_ne _ _ _ (by omega)]; exact K1.1 b (by omega)) (by rw [st_ne _ _ _ (by omega), st_ne _ _ _ (by omega)]; exact K1.2 49 (by omega))
            exact ⟨fun p m p0 p1 m0 m1 => by have : p < np B.1 := p1; omega, d2, d3, d4, d5⟩⟩
          simp (disch := omega) only [Rm_aload_n (k := 0) rfl dX12_moodTold_0, Rm_getfield fl_12_242 dX12_moodTold_1, Rn_if_ne (t := 22) rfl dX12_moodTold_4, Rm_aload_n (k := 0) rfl dX12_moodTold_7, Rm_getfield fl_12_108 dX12_moodTold_8, Rn_iconst (v := jI (1)) rfl dX12_moodTold_11, Rm_iaload dX12_moodTold_12, Rn_if_le (t := 22) rfl dX12_moodTold_13, Rm_aload_n (k := 0) rfl dX12_moodTold_16, Rn_iconst (v := jI (5)) rfl dX12_moodTold_17, Rm_iload_n (k := 1) rfl dX12_moodTold_18, Rm_inV2 (d := dX12_moodTold_19) (hy := mo_139) (h13 := rfl) ml_12_272 rfl, Rm_aload_n (k := 0) rfl dX12_moodTold_22, Rn_iconst (v := jI (0)) rfl dX12_moodTold_23, Rn_iconst (v := jI (4)) rfl dX12_moodTold_24, Rm_iload_n (k := 1) rfl dX12_moodTold_25, Rm_inV3 (d := dX12_moodTold_26) (hy := mo_152) (h13 := rfl) ml_12_308 rfl, Rn_if_eq (t := 33) rfl dX12_moodTold_29, Rn_return rfl dX12_moodTold_32, Rm_aload_n (k := 0) rfl dX12_moodTold_33, Rn_iconst (v := jI (0)) rfl dX12_moodTold_34, Rm_aload_n (k := 0) rfl dX12_moodTold_35, Rm_inV0 (d := dX12_moodTold_36) (hy := mo_154) (h13 := rfl) ml_12_312 rfl, Rm_inV2 (d := dX12_moodTold_39) (hy := mo_156) (h13 := rfl) ml_12_315 rfl, Rn_return rfl dX12_moodTold_42, gs12_5 k218, gs12_40 k218, rdM k250 l250, wrM k250 l250, alM k250 l250, io12 k218, io12 k218, y5, c1, ef, e1, ei, qI_s, qJ_s, qR_s, qV_s, qX_s, qN_s, qW_s, qF_s, qC_s, Option.bind_some, Option.bind_none, Nat.reduceAdd, Nat.reduceBEq, Nat.reduceEqDiff, lk_nil, lk_cons, lk_pt1, lk_pt2i, isJ_i, isJ_r, isJ_l, gI_i, gJ_i, gR_i, Bool.false_eq_true, if_true, if_false, ite_true, ite_false, ↓reduceIte, len4_0, len4_1, len4_2, len4_3, len4_4, Option.toList_some, Option.toList_none, List.cons_append, List.nil_append, va_rf_s, up_hp, ofI_j, jI_add, jI_sub, jI_mul, jI_neg, jL_add, jL_sub, jL_mul, jI_jL, jL_jI, nar_i, nar_zj, lt_t, lt_f, le_t, le_f, eq_t, eq_f, ez_t, ez_f, lz_t, lz_f, gz_t, gz_f, nz_t, nz_f, pz_t, pz_f, lgc_gt, lgc_lt, lgc_ge, lgc_le, lgc_eq, Lt_t, Lt_f, Le_t, Le_f, Eq_t, Eq_f, dv_j, not_true_eq_false, not_false_eq_true, Int.reduceEq, Int.reduceAdd, Int.reduceSub, Int.reduceMul, Int.reduceNeg, Ez_t, Ez_f, dv_L, false_and, true_and, and_true, and_false]
          exact r
        · rw [if_pos hh] at hG'
          have z5 : M1 218 5 = 3 := hfl.1
          have ei := m_isNamed1 (n := n) (z := z) (H := H) (M := M1) (kind := 0) (v := (pkF 0 L : Nat)) (by omega) (by omega) (by omega) (d + 4)
          have r := hG' _ (KW_2 K1) ⟨hfl, by omega, by omega⟩
          simp (disch := omega) only [Rm_aload_n (k := 0) rfl dX12_moodTold_0, Rm_getfield fl_12_242 dX12_moodTold_1, Rn_if_ne (t := 22) rfl dX12_moodTold_4, Rm_aload_n (k := 0) rfl dX12_moodTold_7, Rm_getfield fl_12_108 dX12_moodTold_8, Rn_iconst (v := jI (1)) rfl dX12_moodTold_11, Rm_iaload dX12_moodTold_12, Rn_if_le (t := 22) rfl dX12_moodTold_13, Rm_aload_n (k := 0) rfl dX12_moodTold_16, Rn_iconst (v := jI (5)) rfl dX12_moodTold_17, Rm_iload_n (k := 1) rfl dX12_moodTold_18, Rm_inV2 (d := dX12_moodTold_19) (hy := mo_139) (h13 := rfl) ml_12_272 rfl, Rm_aload_n (k := 0) rfl dX12_moodTold_22, Rn_iconst (v := jI (0)) rfl dX12_moodTold_23, Rn_iconst (v := jI (4)) rfl dX12_moodTold_24, Rm_iload_n (k := 1) rfl dX12_moodTold_25, Rm_inV3 (d := dX12_moodTold_26) (hy := mo_152) (h13 := rfl) ml_12_308 rfl, Rn_if_eq (t := 33) rfl dX12_moodTold_29, Rn_return rfl dX12_moodTold_32, Rm_aload_n (k := 0) rfl dX12_moodTold_33, Rn_iconst (v := jI (0)) rfl dX12_moodTold_34, Rm_aload_n (k := 0) rfl dX12_moodTold_35, Rm_inV0 (d := dX12_moodTold_36) (hy := mo_154) (h13 := rfl) ml_12_312 rfl, Rm_inV2 (d := dX12_moodTold_39) (hy := mo_156) (h13 := rfl) ml_12_315 rfl, Rn_return rfl dX12_moodTold_42, gs12_5 k218, gs12_40 k218, rdM k250 l250, wrM k250 l250, alM k250 l250, io12 k218, io12 k218, y5, c1, ef, e1, ei, qI_s, qJ_s, qR_s, qV_s, qX_s, qN_s, qW_s, qF_s, qC_s, Option.bind_some, Option.bind_none, Nat.reduceAdd, Nat.reduceBEq, Nat.reduceEqDiff, lk_nil, lk_cons, lk_pt1, lk_pt2i, isJ_i, isJ_r, isJ_l, gI_i, gJ_i, gR_i, Bool.false_eq_true, if_true, if_false, ite_true, ite_false, ↓reduceIte, len4_0, len4_1, len4_2, len4_3, len4_4, Option.toList_some, Option.toList_none, List.cons_append, List.nil_append, va_rf_s, up_hp, ofI_j, jI_add, jI_sub, jI_mul, jI_neg, jL_add, jL_sub, jL_mul, jI_jL, jL_jI, nar_i, nar_zj, lt_t, lt_f, le_t, le_f, eq_t, eq_f, ez_t, ez_f, lz_t, lz_f, gz_t, gz_f, nz_t, nz_f, pz_t, pz_f, lgc_gt, lgc_lt, lgc_ge, lgc_le, lgc_eq, Lt_t, Lt_f, Le_t, Le_f, Eq_t, Eq_f, dv_j, not_true_eq_false, not_false_eq_true, Int.reduceEq, Int.reduceAdd, Int.reduceSub, Int.reduceMul, Int.reduceNeg, Ez_t, Ez_f, dv_L, false_and, true_and, and_true, and_false]
          exact r
      · rw [hnm] at h1
        obtain ⟨hfl, x1, x2⟩ := h1
        have z5 : M1 218 5 = (x.1 : Nat) := hfl.1
        have ei := m_isNamed1 (n := n) (z := z) (H := H) (M := M1) (kind := 0) (v := v) (by omega) (by omega) (by omega) (d + 4)
        have r := hG M1 ⟨KW_2 K1, by rw [hnm]; exact ⟨hfl, x1, x2⟩⟩
        simp (disch := omega) only [Rm_aload_n (k := 0) rfl dX12_moodTold_0, Rm_getfield fl_12_242 dX12_moodTold_1, Rn_if_ne (t := 22) rfl dX12_moodTold_4, Rm_aload_n (k := 0) rfl dX12_moodTold_7, Rm_getfield fl_12_108 dX12_moodTold_8, Rn_iconst (v := jI (1)) rfl dX12_moodTold_11, Rm_iaload dX12_moodTold_12, Rn_if_le (t := 22) rfl dX12_moodTold_13, Rm_aload_n (k := 0) rfl dX12_moodTold_16, Rn_iconst (v := jI (5)) rfl dX12_moodTold_17, Rm_iload_n (k := 1) rfl dX12_moodTold_18, Rm_inV2 (d := dX12_moodTold_19) (hy := mo_139) (h13 := rfl) ml_12_272 rfl, Rm_aload_n (k := 0) rfl dX12_moodTold_22, Rn_iconst (v := jI (0)) rfl dX12_moodTold_23, Rn_iconst (v := jI (4)) rfl dX12_moodTold_24, Rm_iload_n (k := 1) rfl dX12_moodTold_25, Rm_inV3 (d := dX12_moodTold_26) (hy := mo_152) (h13 := rfl) ml_12_308 rfl, Rn_if_eq (t := 33) rfl dX12_moodTold_29, Rn_return rfl dX12_moodTold_32, Rm_aload_n (k := 0) rfl dX12_moodTold_33, Rn_iconst (v := jI (0)) rfl dX12_moodTold_34, Rm_aload_n (k := 0) rfl dX12_moodTold_35, Rm_inV0 (d := dX12_moodTold_36) (hy := mo_154) (h13 := rfl) ml_12_312 rfl, Rm_inV2 (d := dX12_moodTold_39) (hy := mo_156) (h13 := rfl) ml_12_315 rfl, Rn_return rfl dX12_moodTold_42, gs12_5 k218, gs12_40 k218, rdM k250 l250, wrM k250 l250, alM k250 l250, io12 k218, io12 k218, y5, c1, ef, e1, ei, qI_s, qJ_s, qR_s, qV_s, qX_s, qN_s, qW_s, qF_s, qC_s, Option.bind_some, Option.bind_none, Nat.reduceAdd, Nat.reduceBEq, Nat.reduceEqDiff, lk_nil, lk_cons, lk_pt1, lk_pt2i, isJ_i, isJ_r, isJ_l, gI_i, gJ_i, gR_i, Bool.false_eq_true, if_true, if_false, ite_true, ite_false, ↓reduceIte, len4_0, len4_1, len4_2, len4_3, len4_4, Option.toList_some, Option.toList_none, List.cons_append, List.nil_append, va_rf_s, up_hp, ofI_j, jI_add, jI_sub, jI_mul, jI_neg, jL_add, jL_sub, jL_mul, jI_jL, jL_jI, nar_i, nar_zj, lt_t, lt_f, le_t, le_f, eq_t, eq_f, ez_t, ez_f, lz_t, lz_f, gz_t, gz_f, nz_t, nz_f, pz_t, pz_f, lgc_gt, lgc_lt, lgc_ge, lgc_le, lgc_eq, Lt_t, Lt_f, Le_t, Le_f, Eq_t, Eq_f, dv_j, not_true_eq_false, not_false_eq_true, Int.reduceEq, Int.reduceAdd, Int.reduceSub, Int.reduceMul, Int.reduceNeg, Ez_t, Ez_f, dv_L, false_and, true_and, and_true, and_false]
        exact r
/-- taking a word, a number, purely told -/
theorem m_asksP (hb : Byt g k) (hk : k ≤ 1600) (he : e ≤ k) (hP : PQ g k e nb M) (hWK : WK M) {c w : Nat} (hcw : (c, w) ∈ wcL) (d : Nat) : ∃ M' : Me, X (d + 4) 145 [.ref 218, .ref c] (n, z, hp H M) = some (none, (n, z, hp H M')) ∧ KT M M' ∧ (match wdT g k (w : Nat) (e, nb) with
    | .inl q => PQ g k q.1 q.2 M'
    | .inr x => FL M' x.1 x.2 ∧ 1 ≤ x.1 ∧ x.1 < 100) := by
  obtain ⟨M', e1, K1, h1⟩ := m_asks (n := n) (z := z) (H := H) hb hk he hP hWK hcw d
  refine ⟨M', e1, K1, ?_⟩
  unfold wdT
  dsimp only
  rcases h1 with ⟨hw, hq⟩ | ⟨hw, hfl⟩
  · have hw' : isWd g k e nb (w : Nat) := hw
    rw [if_pos hw']
    exact hq
  · have hw' : ¬ isWd g k e nb (w : Nat) := hw
    rw [if_neg hw']
    exact ⟨hfl, by omega, by omega⟩
theorem m_numP (hb : Byt g k) (hk : k ≤ 1600) (he : e ≤ k) (hP : PQ g k e nb M) {hi : Int} (h1 : 0 ≤ hi) (h2 : hi < 100000) (d : Nat) : ∃ (v : Int) (M' : Me), X (d + 2) 148 [.ref 218, .int (jI 0), .int (jI hi)] (n, z, hp H M) = some (some (.int (jI v)), (n, z, hp H M')) ∧ KT M M' ∧ (match nuF g k hi (e, nb) with
    | .inl (x, q) => v = x ∧ PQ g k q.1 q.2 M'
    | .inr x => FL M' x.1 x.2 ∧ 1 ≤ x.1 ∧ x.1 < 100) := by
  obtain ⟨v, M', e1, K1, h⟩ := m_number (n := n) (z := z) (H := H) hb hk he hP (lo := 0) (hi := hi) (by omega) h1 h2 d
  refine ⟨v, M', e1, K1, ?_⟩
  unfold nuF
  dsimp only
  rcases h with ⟨q1, q2, q3, q4, q5, hq⟩ | ⟨q1, q2, q3, q4, hfl⟩ | ⟨q1, q2, q3, hfl⟩ | ⟨q1, q2, hfl⟩
  · rw [if_pos q1, if_pos q2, if_pos (by omega)]
    exact ⟨q3, hq⟩
  · have hr := nu_rng he q1 q2
    rw [va_nu he q1 q2] at hr
    rw [if_pos q1, if_pos q2, if_neg (by omega)]
    exact ⟨hfl, by omega, by omega⟩
  · rw [if_pos q1, if_neg (by omega)]
    exact ⟨hfl, by omega, by omega⟩
  · rw [if_neg q1]
    exact ⟨hfl, by omega, by omega⟩
end

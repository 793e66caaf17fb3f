/-! calls: town: the reference -/
/-- what town tells -/
noncomputable def twV (g : Int → Int) (k : Nat) : Int := match twF g k 60 (0, false) B0 with
  | .inl (_, m) => 60 - m
  | .inr _ => -1
theorem B0_CN0 {M : Me} (h : ∀ i : Int, 0 ≤ i → i < 5 → M 250 i = 0) : CNR M B0 := by
  have e0 : ∀ kind, cntK B0.1 kind = 0 := fun kind => by
    unfold cntK
    repeat' split
    all_goals rfl
  refine ⟨fun kind hk => ?_, ?_, fun kind j hk hj => ?_⟩
  · rw [e0, h _ (by omega) (by omega)]
    exact ⟨rfl, by omega⟩
  · rw [h _ (by omega) (by omega)]
    rfl
  · rw [e0] at hj
    omega
theorem B0_BD0 {M : Me} (h1 : M 218 49 = 0) (h2 : M 256 0 = -1) (h3 : M 256 1 = -1) (h4 : M 255 0 = 5) (h5 : M 255 1 = 18) (h6 : M 255 2 = 0) : BDR M B0 0 := by
  have e1 : ((np B0.1 : Nat) : Int) = 0 := rfl
  have e2 : ((nl B0.1 : Nat) : Int) = 0 := rfl
  have e3 : ((ne B0.1 : Nat) : Int) = 0 := rfl
  have e4 : nd B0.1 = 0 := rfl
  exact ⟨fun p m p0 p1 => by omega, fun l l0 l1 => by omega, fun i i0 i1 => by omega, ⟨h1, Or.inl ⟨rfl, h2⟩, Or.inl ⟨rfl, h3⟩, fun d hd => by omega⟩, h4, h5, h6⟩
section
variable {n z : Nat} {H : Nat → AC} {M : Me} {g : Int → Int} {k e : Nat} {nb : Bool}
theorem pk_end (hb : Byt g k) (he : e ≤ k) : pkV g k e = -1 ↔ tkK g k e = 0 := by
  rw [tkK_0]
  unfold pkV
  constructor
  · intro h q
    rw [if_pos q] at h
    have := hb (skp g k e) (by omega) (by omega)
    omega
  · intro q
    rw [if_neg q]
/-- how the reference's reading of a town ends -/
def TwR (M : Me) (r : (BT × Nat) ⊕ Fz) (v : Int) (M' : Me) : Prop := match r with
  | .inl (B, m) => v = 60 - m ∧ M' 218 7 = 0 ∧ M' 218 8 = -1 ∧ M' 218 63 = 0 ∧ M' 218 66 = 0 ∧ RT M' B.1 ∧ NR B.1 (M' 259) (bgS B) ∧ NmR M' B.1 B.2.1 ∧ M' 220 = M 220
  | .inr x => v = -1 ∧ M' 218 7 = x.1 ∧ M' 218 8 = x.2 ∧ M' 220 = su (M 220) 1 (M 220 1 + 1) ∧ (∀ b i, ¬ okW b i → ¬ (b = 218 ∨ b = 220) → M' b i = M b i) ∧ ∀ i, ¬ (i = 1 ∨ i = 2 ∨ i = 3 ∨ i = 4 ∨ i = 5 ∨ i = 6 ∨ i = 7 ∨ i = 8 ∨ i = 39 ∨ i = 49 ∨ i = 50 ∨ i = 51 ∨ i = 92 ∨ i = 94 ∨ i = 95 ∨ i = 96) → M' 218 i = M 218 i
set_option maxHeartbeats 16000000 in
theorem r_town (hb : Byt (M 219) k) (hk : k ≤ 1600) (h1 : M 218 1 = k) (hWK : WK M) (d : Nat) : ∃ (v : Int) (M' : Me), X (d + 15) 167 [.ref 218] (n, z, hp H M) = some (some (.int (jI v)), (n, z, hp H M')) ∧ (∀ b, ¬ (b = 218 ∨ b = 220 ∨ (250 ≤ b ∧ b ≤ 259) ∨ b = 288 ∨ b = 289) → M' b = M b) ∧ (∀ i, ¬ (i = 1 ∨ i = 2 ∨ i = 3 ∨ i = 4 ∨ i = 5 ∨ i = 6 ∨ i = 7 ∨ i = 8 ∨ i = 39 ∨ i = 49 ∨ i = 50 ∨ i = 51 ∨ i = 63 ∨ i = 66 ∨ i = 92 ∨ i = 94 ∨ i = 95 ∨ i = 96) → M' 218 i = M 218 i) ∧ M' 218 1 = 0 ∧ TwR M (twF (M 219) k 60 (0, false) B0) v M' := by
  generalize hg : M 219 = g at *
  refine ex2_of fun G hG => ?_
  have key : ∀ (r m : Nat) (p : Ps) (B : BT) (s : Nat) (M3 : Me), r + m = 60 → p.1 ≤ k → PQ g k p.1 p.2 M3 → CNR M3 B → BDR M3 B s → s ≤ p.1 → wfB B → M3 218 50 = (m : Nat) → M3 218 6 = -1 → M3 218 1 = 0 → WK M3 → M3 220 = M 220 → (∀ b i, ¬ okW b i → ¬ (b = 218) → M3 b i = M b i) → (∀ i, ¬ (i = 1 ∨ i = 2 ∨ i = 3 ∨ i = 4 ∨ i = 5 ∨ i = 6 ∨ i = 39 ∨ i = 49 ∨ i = 50 ∨ i = 51 ∨ i = 92 ∨ i = 94 ∨ i = 95 ∨ i = 96) → M3 218 i = M 218 i) → ∀ l1, lk l1 0 = some (.ref 218) → (∀ v M', (∀ b, ¬ (b = 218 ∨ b = 220 ∨ (250 ≤ b ∧ b ≤ 259) ∨ b = 288 ∨ b = 289) → M' b = M b) → (∀ i, ¬ (i = 1 ∨ i = 2 ∨ i = 3 ∨ i = 4 ∨ i = 5 ∨ i = 6 ∨ i = 7 ∨ i = 8 ∨ i = 39 ∨ i = 49 ∨ i = 50 ∨ i = 51 ∨ i = 63 ∨ i = 66 ∨ i = 92 ∨ i = 94 ∨ i = 95 ∨ i = 96) → M' 218 i = M 218 i) → M' 218 1 = 0 → TwR M (twF g k r p B) v M' → G (some (some (.int (jI v)), (n, z, hp H M')))) → G (Rn (X (d + 14)) 12 (some .int) false 2 cX12_town (99, l1, [], (n, z, hp H M3))) := by
    have flt : ∀ (M5 : Me) (l1 : Lo) (x : Fz) (r : (BT × Nat) ⊕ Fz), r = .inr x → FL M5 x.1 x.2 → 1 ≤ x.1 ∧ x.1 < 100 → M5 220 = M 220 → M5 218 1 = 0 → (∀ b i, ¬ okW b i → ¬ (b = 218) → M5 b i = M b i) → (∀ i, ¬ (i = 1 ∨ i = 2 ∨ i = 3 ∨ i = 4 ∨ i = 5 ∨ i = 6 ∨ i = 39 ∨ i = 49 ∨ i = 50 ∨ i = 51 ∨ i = 92 ∨ i = 94 ∨ i = 95 ∨ i = 96) → M5 218 i = M 218 i) → lk l1 0 = some (.ref 218) → (∀ v M', (∀ b, ¬ (b = 218 ∨ b = 220 ∨ (250 ≤ b ∧ b ≤ 259) ∨ b = 288 ∨ b = 289) → M' b = M b) → (∀ i, ¬ (i = 1 ∨ i = 2 ∨ i = 3 ∨ i = 4 ∨ i = 5 ∨ i = 6 ∨ i = 7 ∨ i = 8 ∨ i = 39 ∨ i = 49 ∨ i = 50 ∨ i = 51 ∨ i = 63 ∨ i = 66 ∨ i = 92 ∨ i = 94 ∨ i = 95 ∨ i = 96) → M' 218 i = M 218 i) → M' 218 1 = 0 → TwR M r v M' → G (some (some (.int (jI v)), (n, z, hp H M')))) → G (Rn (X (d + 14)) 12 (some .int) false 2 cX12_town (99, l1, [], (n, z, hp H M5))) := by
      intro M5 l1 x r hr hfl hx h220 h1' F1 F2 q0 hG
      have z5 : M5 218 5 = (x.1 : Nat) := hfl.1
      have z6 : M5 218 6 = (x.2 : Nat) := hfl.2
      have y5 : (st (st M5 218 7 (x.1 : Nat)) 218 8 (x.2 : Nat)) 218 5 = (x.1 : Nat) := by rw [st_self, su_ne _ _ (by omega), st_self, su_ne _ _ (by omega)]; exact z5
      have y6 : (st M5 218 7 (x.1 : Nat)) 218 6 = (x.2 : Nat) := by rw [st_self, su_ne _ _ (by omega)]; exact z6
      have y220 : (st (st M5 218 7 (x.1 : Nat)) 218 8 (x.2 : Nat)) 220 = M 220 := by rw [st_ne _ _ _ (by omega), st_ne _ _ _ (by omega)]; exact h220
      have FF : ∀ i, ¬ (i = 1 ∨ i = 2 ∨ i = 3 ∨ i = 4 ∨ i = 5 ∨ i = 6 ∨ i = 7 ∨ i = 8 ∨ i = 39 ∨ i = 49 ∨ i = 50 ∨ i = 51 ∨ i = 92 ∨ i = 94 ∨ i = 95 ∨ i = 96) → (st (st (st M5 218 7 (x.1 : Nat)) 218 8 (x.2 : Nat)) 220 1 (M 220 1 + 1)) 218 i = M 218 i := fun i hi => by
        simp only [not_or] at hi
        rw [st_ne _ _ _ (by omega), st_self, su_ne _ _ hi.2.2.2.2.2.2.2.1, st_self, su_ne _ _ hi.2.2.2.2.2.2.1]
        exact F2 i (by simp only [not_or]; exact ⟨hi.1, hi.2.1, hi.2.2.1, hi.2.2.2.1, hi.2.2.2.2.1, hi.2.2.2.2.2.1, hi.2.2.2.2.2.2.2.2⟩)
      have r0 := hG (-1) (st (st (st M5 218 7 (x.1 : Nat)) 218 8 (x.2 : Nat)) 220 1 (M 220 1 + 1)) (fun b hb => by
        have hb' : ¬ (b = 218 ∨ (250 ≤ b ∧ b ≤ 258) ∨ b = 288 ∨ b = 289) := fun h => hb (by omega)
        rw [st_ne _ _ _ (by omega), st_ne _ _ _ (by omega), st_ne _ _ _ (by omega)]
        funext i
        exact F1 b i (noW hb') (by omega)) (fun i hi => FF i (fun h => hi (by
          rcases h with h | h | h | h | h | h | h | h | h | h | h | h | h | h | h | h <;> (subst h; decide)))) (by rw [st_ne _ _ _ (by omega), st_self, su_ne _ _ (by omega), st_self, su_ne _ _ (by omega)]; exact h1') (by
        rw [hr]
        refine ⟨rfl, by rw [st_ne _ _ _ (by omega), st_self, su_ne _ _ (by omega), st_self, su_self], by rw [st_ne _ _ _ (by omega), st_self, su_self], by rw [st_self, y220], fun b i hb hb2 => ?_, FF⟩
        rw [st_ne _ _ _ (by omega), st_ne _ _ _ (by omega), st_ne _ _ _ (by omega)]
        exact F1 b i hb (by omega))
      rw [Rm_aload_n (k := 0) rfl dX12_town_99]
      simp (disch := omega) only [Rm_getfield fl_12_242 dX12_town_100, Rn_if_ne (t := 121) rfl dX12_town_103, gs12_5 k218, Rm_aload_n (k := 0) rfl dX12_town_121, Rm_aload_n (k := 0) rfl dX12_town_122, Rm_getfield fl_12_242 dX12_town_123, Rm_putfieldI (ini := false) fl_12_392 rfl rfl dX12_town_126, Rm_aload_n (k := 0) rfl dX12_town_129, Rm_aload_n (k := 0) rfl dX12_town_130, Rm_getfield fl_12_245 dX12_town_131, Rm_putfieldI (ini := false) fl_12_13 rfl rfl dX12_town_134, Rm_aload_n (k := 0) rfl dX12_town_137, Rm_getfield fl_12_242 dX12_town_138, Rn_if_eq (t := 156) rfl dX12_town_141, Rm_aload_n (k := 0) rfl dX12_town_144, Rm_getfield fl_12_17 dX12_town_145, Rn_iconst (v := jI (1)) rfl dX12_town_148, Rn_dup2 dX12_town_149, Rm_iaload dX12_town_150, Rn_iconst (v := jI (1)) rfl dX12_town_151, Rn_iadd dX12_town_152, Rm_iastore dX12_town_153, Rn_iconst (v := jI (-1)) rfl dX12_town_154, Rn_ireturn (ty := .int) rfl dX12_town_155, gs12_5 k218, gs12_6 k218, gs12_9 k218, rdM k220 l220, wrM k220 l220, alM k220 l220, ps12_7 k218, ps12_8 k218, Rn_dup2 dX12_town_149, q0, z5, y6, y5, y220, qI_s, qJ_s, qR_s, qV_s, qX_s, qN_s, qW_s, qF_s, qC_s, Option.bind_some, Option.bind_none, Nat.reduceAdd, Nat.reduceBEq, Nat.reduceEqDiff, lk_nil, lk_cons, lk_pt1, lk_pt2i, isJ_i, isJ_r, isJ_l, gI_i, gJ_i, gR_i, Bool.false_eq_true, if_true, if_false, ite_true, ite_false, ↓reduceIte, len4_0, len4_1, len4_2, len4_3, len4_4, Option.toList_some, Option.toList_none, List.cons_append, List.nil_append, va_rf_s, up_hp, ofI_j, jI_add, jI_sub, jI_mul, jI_neg, jL_add, jL_sub, jL_mul, jI_jL, jL_jI, nar_i, nar_zj, lt_t, lt_f, le_t, le_f, eq_t, eq_f, ez_t, ez_f, lz_t, lz_f, gz_t, gz_f, nz_t, nz_f, pz_t, pz_f, lgc_gt, lgc_lt, lgc_ge, lgc_le, lgc_eq, Lt_t, Lt_f, Le_t, Le_f, Eq_t, Eq_f, dv_j, not_true_eq_false, not_false_eq_true, Int.reduceEq, Int.reduceAdd, Int.reduceSub, Int.reduceMul, Int.reduceNeg, Ez_t, Ez_f, dv_L, false_and, true_and, and_true, and_false]
      exact r0
    have good : ∀ (r m : Nat) (p : Ps) (B : BT) (s : Nat) (M3 : Me) (l1 : Lo), r + m = 60 → p.1 ≤ k → PQ g k p.1 p.2 M3 → CNR M3 B → BDR M3 B s → s ≤ p.1 → wfB B → M3 218 50 = (m : Nat) → M3 218 6 = -1 → M3 218 1 = 0 → M3 220 = M 220 → (∀ b i, ¬ okW b i → ¬ (b = 218) → M3 b i = M b i) → (∀ i, ¬ (i = 1 ∨ i = 2 ∨ i = 3 ∨ i = 4 ∨ i = 5 ∨ i = 6 ∨ i = 39 ∨ i = 49 ∨ i = 50 ∨ i = 51 ∨ i = 92 ∨ i = 94 ∨ i = 95 ∨ i = 96) → M3 218 i = M 218 i) → tkK g k p.1 = 0 → lk l1 0 = some (.ref 218) → (∀ v M', (∀ b, ¬ (b = 218 ∨ b = 220 ∨ (250 ≤ b ∧ b ≤ 259) ∨ b = 288 ∨ b = 289) → M' b = M b) → (∀ i, ¬ (i = 1 ∨ i = 2 ∨ i = 3 ∨ i = 4 ∨ i = 5 ∨ i = 6 ∨ i = 7 ∨ i = 8 ∨ i = 39 ∨ i = 49 ∨ i = 50 ∨ i = 51 ∨ i = 63 ∨ i = 66 ∨ i = 92 ∨ i = 94 ∨ i = 95 ∨ i = 96) → M' 218 i = M 218 i) → M' 218 1 = 0 → TwR M (.inl (B, r)) v M' → G (some (some (.int (jI v)), (n, z, hp H M')))) → G (Rn (X (d + 14)) 12 (some .int) false 2 cX12_town (99, l1, [], (n, z, hp H M3))) := by
      intro r m p B s M3 l1 hm hpk hP hC hD hs hB h50 h6 h1' h220 F1 F2 hK q0 hG
      have y5 : M3 218 5 = 0 := hP.2.2.2.2.1
      obtain ⟨M4, e4, f1, f2, f3⟩ := m_peeks (n := n) (z := z) (H := H) hb hk hpk hP.1 hP.2.1 hP.2.2.1 (d + 13)
      rw [(pk_end hb hpk).mpr hK] at e4
      have z5 : M4 218 5 = 0 := by rw [f2 5 (by omega)]; exact y5
      have z6 : (st M4 218 7 0) 218 6 = -1 := by rw [st_self, su_ne _ _ (by omega), f2 6 (by omega)]; exact h6
      have z52 : (st (st M4 218 7 0) 218 8 (-1)) 218 5 = 0 := by rw [st_self, su_ne _ _ (by omega), st_self, su_ne _ _ (by omega)]; exact z5
      have F8 : ∀ b, ¬ b = 218 → (st (st M4 218 7 0) 218 8 (-1)) b = M3 b := fun b hb => by rw [st_ne _ _ _ hb, st_ne _ _ _ hb, f1 b hb]
      obtain ⟨M5, e5, g1, g2, g3, g4, g5, g6, g7⟩ := m_stands (n := n) (z := z) (H := H) (M := st (st M4 218 7 0) 218 8 (-1)) (s := s) (by omega) (CNR_keep hC (F8 _ (by omega)) (F8 _ (by omega))) (BDR_keep hD (fun b b0 b1 => F8 b (by omega)) (by rw [st_self, su_ne _ _ (by omega), st_self, su_ne _ _ (by omega), f2 49 (by omega)])) (wfB_bd hB) (d + 13)
      have z50 : M5 218 50 = (m : Nat) := by rw [g2 50 (by omega), st_self, su_ne _ _ (by omega), st_self, su_ne _ _ (by omega), f2 50 (by omega)]; exact h50
      have r0 := hG (m : Nat) M5 (fun b hb => by
        have hb' : ¬ (b = 218 ∨ (250 ≤ b ∧ b ≤ 258) ∨ b = 288 ∨ b = 289) := fun h => hb (by omega)
        rw [g1 b (by omega), F8 b (by omega)]
        funext i
        exact F1 b i (noW hb') (by omega)) (fun i hi => by
        simp only [not_or] at hi
        rw [g2 i (by simp only [not_or]; exact ⟨hi.2.2.2.2.2.2.2.2.2.2.2.2.1, hi.2.2.2.2.2.2.2.2.2.2.2.2.2.1⟩), st_self, su_ne _ _ hi.2.2.2.2.2.2.2.1, st_self, su_ne _ _ hi.2.2.2.2.2.2.1, f2 i hi.2.1]
        exact F2 i (by simp only [not_or]; exact ⟨hi.1, hi.2.1, hi.2.2.1, hi.2.2.2.1, hi.2.2.2.2.1, hi.2.2.2.2.2.1, hi.2.2.2.2.2.2.2.2.1, hi.2.2.2.2.2.2.2.2.2.1, hi.2.2.2.2.2.2.2.2.2.2.1, hi.2.2.2.2.2.2.2.2.2.2.2.1, hi.2.2.2.2.2.2.2.2.2.2.2.2.2.2⟩)) (by rw [g2 1 (by omega), st_self, su_ne _ _ (by omega), st_self, su_ne _ _ (by omega), f2 1 (by omega)]; exact h1') ⟨by omega, by rw [g2 7 (by omega), st_self, su_ne _ _ (by omega), st_self, su_self], by rw [g2 8 (by omega), st_self, su_self], g3, g4, g5, g6, g7, by rw [g1 220 (by omega), F8 220 (by omega)]; exact h220⟩
      rw [Rm_aload_n (k := 0) rfl dX12_town_99]
      simp (disch := omega) only [Rm_getfield fl_12_242 dX12_town_100, Rn_if_ne (t := 121) rfl dX12_town_103, Rm_aload_n (k := 0) rfl dX12_town_106, Rm_inV0 (d := dX12_town_107) (hy := mo_142) (h13 := rfl) ml_12_254 rfl, Rn_iconst (v := jI (-1)) rfl dX12_town_110, Rn_icmp_eq (t := 121) rfl dX12_town_111, gs12_5 k218, io12 k218, Rm_aload_n (k := 0) rfl dX12_town_121, Rm_aload_n (k := 0) rfl dX12_town_122, Rm_getfield fl_12_242 dX12_town_123, Rm_putfieldI (ini := false) fl_12_392 rfl rfl dX12_town_126, Rm_aload_n (k := 0) rfl dX12_town_129, Rm_aload_n (k := 0) rfl dX12_town_130, Rm_getfield fl_12_245 dX12_town_131, Rm_putfieldI (ini := false) fl_12_13 rfl rfl dX12_town_134, Rm_aload_n (k := 0) rfl dX12_town_137, Rm_getfield fl_12_242 dX12_town_138, Rn_if_eq (t := 156) rfl dX12_town_141, gs12_5 k218, gs12_6 k218, ps12_7 k218, ps12_8 k218, Rm_aload_n (k := 0) rfl dX12_town_156, Rm_inV0 (d := dX12_town_157) (hy := mo_168) (h13 := rfl) ml_12_395 rfl, Rm_aload_n (k := 0) rfl dX12_town_160, Rm_getfield fl_12_365 dX12_town_161, Rn_ireturn (ty := .int) rfl dX12_town_164, gs12_50 k218, io12 k218, io12 k218, q0, y5, e4, z5, z6, z52, e5, z50, qI_s, qJ_s, qR_s, qV_s, qX_s, qN_s, qW_s, qF_s, qC_s, Option.bind_some, Option.bind_none, Nat.reduceAdd, Nat.reduceBEq, Nat.reduceEqDiff, lk_nil, lk_cons, lk_pt1, lk_pt2i, isJ_i, isJ_r, isJ_l, gI_i, gJ_i, gR_i, Bool.false_eq_true, if_true, if_false, ite_true, ite_false, ↓reduceIte, len4_0, len4_1, len4_2, len4_3, len4_4, Option.toList_some, Option.toList_none, List.cons_append, List.nil_append, va_rf_s, up_hp, ofI_j, jI_add, jI_sub, jI_mul, jI_neg, jL_add, jL_sub, jL_mul, jI_jL, jL_jI, nar_i, nar_zj, lt_t, lt_f, le_t, le_f, eq_t, eq_f, ez_t, ez_f, lz_t, lz_f, gz_t, gz_f, nz_t, nz_f, pz_t, pz_f, lgc_gt, lgc_lt, lgc_ge, lgc_le, lgc_eq, Lt_t, Lt_f, Le_t, Le_f, Eq_t, Eq_f, dv_j, not_true_eq_false, not_false_eq_true, Int.reduceEq, Int.reduceAdd, Int.reduceSub, Int.reduceMul, Int.reduceNeg, Ez_t, Ez_f, dv_L, false_and, true_and, and_true, and_false]
      exact r0
    intro r
    induction r with
    | zero =>
      intro m p B s M3 hm hpk hP hC hD hs hB h50 h6 h1' hWK3 h220 F1 F2 l1 q0 hG
      unfold twF at hG
      by_cases q : tkK g k p.1 = 0
      · rw [if_pos q] at hG
        exact good 0 m p B s M3 l1 hm hpk hP hC hD hs hB h50 h6 h1' h220 F1 F2 q q0 hG
      · rw [if_neg q] at hG
        have y5 : M3 218 5 = 0 := hP.2.2.2.2.1
        obtain ⟨M4, e4, f1, f2, f3⟩ := m_peeks (n := n) (z := z) (H := H) hb hk hpk hP.1 hP.2.1 hP.2.2.1 (d + 13)
        have hne : ¬ pkV g k p.1 = -1 := fun h => q ((pk_end hb hpk).mp h)
        have pr := pkV_rng hb hpk
        have hP4 := PQ_pk hpk hP f1 f2 f3
        obtain ⟨M5, e5, W5, h5⟩ := m_stTold (n := n) (z := z) (H := H) (m := m) hb hk hpk hP4 f3 (WK_T hWK3 (KT_2 f1 f2)) (CNR_keep hC (f1 _ (by omega)) (f1 _ (by omega))) (BDR_keep hD (fun b b0 b1 => f1 b (by omega)) (f2 49 (by omega))) hB hs (by rw [f2 50 (by omega)]; exact h50) (by omega) d
        rw [if_pos (by omega)] at h5
        have FA : ∀ b i, ¬ okW b i → ¬ (b = 218) → M5 b i = M b i := fun b i hb hb2 => by rw [W5 b i hb (fun h => hb2 h.1), f1 b hb2]; exact F1 b i hb hb2
        have FB : ∀ i, ¬ (i = 1 ∨ i = 2 ∨ i = 3 ∨ i = 4 ∨ i = 5 ∨ i = 6 ∨ i = 39 ∨ i = 49 ∨ i = 50 ∨ i = 51 ∨ i = 92 ∨ i = 94 ∨ i = 95 ∨ i = 96) → M5 218 i = M 218 i := fun i hi => by
          have hi' := hi
          simp only [not_or] at hi'
          rw [W5 218 i (noW_218 (by simp only [not_or]; exact ⟨hi'.2.1, hi'.2.2.2.1, hi'.2.2.2.2.1, hi'.2.2.2.2.2.1, hi'.2.2.2.2.2.2.1, hi'.2.2.2.2.2.2.2.1, hi'.2.2.2.2.2.2.2.2.2⟩)) (fun h => hi'.2.2.2.2.2.2.2.2.1 h.2), f2 i hi'.2.1]
          exact F2 i hi
        have hx := flt M5 l1 (5, skp g k p.1) (.inr (5, skp g k p.1)) rfl h5 ⟨by omega, by omega⟩ (by
          funext i
          rw [W5 220 i (noW (by omega)) (by omega), f1 220 (by omega), h220]) (by rw [W5 218 1 (noW_218 (by decide)) (by omega), f2 1 (by omega)]; exact h1') FA FB q0 hG
        rw [Rm_aload_n (k := 0) rfl dX12_town_99]
        simp (disch := omega) only [Rm_getfield fl_12_242 dX12_town_100, Rn_if_ne (t := 121) rfl dX12_town_103, Rm_aload_n (k := 0) rfl dX12_town_106, Rm_inV0 (d := dX12_town_107) (hy := mo_142) (h13 := rfl) ml_12_254 rfl, Rn_iconst (v := jI (-1)) rfl dX12_town_110, Rn_icmp_eq (t := 121) rfl dX12_town_111, Rm_aload_n (k := 0) rfl dX12_town_114, Rm_inV0 (d := dX12_town_115) (hy := mo_166) (h13 := rfl) ml_12_389 rfl, Rn_goto (t := 99) rfl dX12_town_118, gs12_5 k218, io12 k218, io12 k218, q0, y5, e4, e5, qI_s, qJ_s, qR_s, qV_s, qX_s, qN_s, qW_s, qF_s, qC_s, Option.bind_some, Option.bind_none, Nat.reduceAdd, Nat.reduceBEq, Nat.reduceEqDiff, lk_nil, lk_cons, lk_pt1, lk_pt2i, isJ_i, isJ_r, isJ_l, gI_i, gJ_i, gR_i, Bool.false_eq_true, if_true, if_false, ite_true, ite_false, ↓reduceIte, len4_0, len4_1, len4_2, len4_3, len4_4, Option.toList_some, Option.toList_none, List.cons_append, List.nil_append, va_rf_s, up_hp, ofI_j, jI_add, jI_sub, jI_mul, jI_neg, jL_add, jL_sub, jL_mul, jI_jL, jL_jI, nar_i, nar_zj, lt_t, lt_f, le_t, le_f, eq_t, eq_f, ez_t, ez_f, lz_t, lz_f, gz_t, gz_f, nz_t, nz_f, pz_t, pz_f, lgc_gt, lgc_lt, lgc_ge, lgc_le, lgc_eq, Lt_t, Lt_f, Le_t, Le_f, Eq_t, Eq_f, dv_j, not_true_eq_false, not_false_eq_true, Int.reduceEq, Int.reduceAdd, Int.reduceSub, Int.reduceMul, Int.reduceNeg, Ez_t, Ez_f, dv_L, false_and, true_and, and_true, and_false]
        exact hx
    | succ r ih =>
      intro m p B s M3 hm hpk hP hC hD hs hB h50 h6 h1' hWK3 h220 F1 F2 l1 q0 hG
      unfold twF at hG
      by_cases q : tkK g k p.1 = 0
      · rw [if_pos q] at hG
        exact good (r + 1) m p B s M3 l1 hm hpk hP hC hD hs hB h50 h6 h1' h220 F1 F2 q q0 hG
      · rw [if_neg q] at hG
        have y5 : M3 218 5 = 0 := hP.2.2.2.2.1
        obtain ⟨M4, e4, f1, f2, f3⟩ := m_peeks (n := n) (z := z) (H := H) hb hk hpk hP.1 hP.2.1 hP.2.2.1 (d + 13)
        have hne : ¬ pkV g k p.1 = -1 := fun h => q ((pk_end hb hpk).mp h)
        have pr := pkV_rng hb hpk
        have hP4 := PQ_pk hpk hP f1 f2 f3
        have hWK4 := WK_T hWK3 (KT_2 f1 f2)
        obtain ⟨M5, e5, W5, h5⟩ := m_stTold (n := n) (z := z) (H := H) (m := m) hb hk hpk hP4 f3 hWK4 (CNR_keep hC (f1 _ (by omega)) (f1 _ (by omega))) (BDR_keep hD (fun b b0 b1 => f1 b (by omega)) (f2 49 (by omega))) hB hs (by rw [f2 50 (by omega)]; exact h50) (by omega) d
        rw [if_neg (by omega)] at h5
        obtain ⟨h5, z50⟩ := h5
        have FA : ∀ b i, ¬ okW b i → ¬ (b = 218) → M5 b i = M b i := fun b i hb hb2 => by rw [W5 b i hb (fun h => hb2 h.1), f1 b hb2]; exact F1 b i hb hb2
        have FB : ∀ i, ¬ (i = 1 ∨ i = 2 ∨ i = 3 ∨ i = 4 ∨ i = 5 ∨ i = 6 ∨ i = 39 ∨ i = 49 ∨ i = 50 ∨ i = 51 ∨ i = 92 ∨ i = 94 ∨ i = 95 ∨ i = 96) → M5 218 i = M 218 i := fun i hi => by
          have hi' := hi
          simp only [not_or] at hi'
          rw [W5 218 i (noW_218 (by simp only [not_or]; exact ⟨hi'.2.1, hi'.2.2.2.1, hi'.2.2.2.2.1, hi'.2.2.2.2.2.1, hi'.2.2.2.2.2.2.1, hi'.2.2.2.2.2.2.2.1, hi'.2.2.2.2.2.2.2.2.2⟩)) (fun h => hi'.2.2.2.2.2.2.2.2.1 h.2), f2 i hi'.2.1]
          exact F2 i hi
        have z220 : M5 220 = M 220 := by
          funext i
          rw [W5 220 i (noW (by omega)) (by omega), f1 220 (by omega), h220]
        have z1 : M5 218 1 = 0 := by rw [W5 218 1 (noW_218 (by decide)) (by omega), f2 1 (by omega)]; exact h1'
        have hWK5 : WK M5 := by
          intro pp hpp i hi
          have qq : ∀ p ∈ wcL, ¬ (p.1 = 218 ∨ (250 ≤ p.1 ∧ p.1 ≤ 258) ∨ p.1 = 288 ∨ p.1 = 289) := by decide +kernel
          have q2 := qq pp hpp
          rw [W5 _ _ (noW q2) (fun h => q2 (Or.inl h.1))]
          exact hWK4 pp hpp i hi
        rw [show stF g k (p.1, p.2) B = stF g k p B from rfl] at h5
        rcases hst : stF g k p B with ⟨q5, B5⟩ | x
        · rw [hst] at h5
          obtain ⟨hP5, hC5, s5, hs5, hD5⟩ := h5
          obtain ⟨u1, u2, u3⟩ := stF_wf hpk hst hB
          have z6 : M5 218 6 = -1 := hP5.2.2.2.2.2.2
          have hx := ih (m + 1) q5 B5 s5 M5 (by omega) u2 hP5 hC5 hD5 hs5 u3 z50 z6 z1 hWK5 z220 FA FB l1 q0 (fun v M' a b c x => hG v M' a b c (by rw [hst]; exact x))
          rw [Rm_aload_n (k := 0) rfl dX12_town_99]
          simp (disch := omega) only [Rm_getfield fl_12_242 dX12_town_100, Rn_if_ne (t := 121) rfl dX12_town_103, Rm_aload_n (k := 0) rfl dX12_town_106, Rm_inV0 (d := dX12_town_107) (hy := mo_142) (h13 := rfl) ml_12_254 rfl, Rn_iconst (v := jI (-1)) rfl dX12_town_110, Rn_icmp_eq (t := 121) rfl dX12_town_111, Rm_aload_n (k := 0) rfl dX12_town_114, Rm_inV0 (d := dX12_town_115) (hy := mo_166) (h13 := rfl) ml_12_389 rfl, Rn_goto (t := 99) rfl dX12_town_118, gs12_5 k218, io12 k218, io12 k218, q0, y5, e4, e5, qI_s, qJ_s, qR_s, qV_s, qX_s, qN_s, qW_s, qF_s, qC_s, Option.bind_some, Option.bind_none, Nat.reduceAdd, Nat.reduceBEq, Nat.reduceEqDiff, lk_nil, lk_cons, lk_pt1, lk_pt2i, isJ_i, isJ_r, isJ_l, gI_i, gJ_i, gR_i, Bool.false_eq_true, if_true, if_false, ite_true, ite_false, ↓reduceIte, len4_0, len4_1, len4_2, len4_3, len4_4, Option.toList_some, Option.toList_none, List.cons_append, List.nil_append, va_rf_s, up_hp, ofI_j, jI_add, jI_sub, jI_mul, jI_neg, jL_add, jL_sub, jL_mul, jI_jL, jL_jI, nar_i, nar_zj, lt_t, lt_f, le_t, le_f, eq_t, eq_f, ez_t, ez_f, lz_t, lz_f, gz_t, gz_f, nz_t, nz_f, pz_t, pz_f, lgc_gt, lgc_lt, lgc_ge, lgc_le, lgc_eq, Lt_t, Lt_f, Le_t, Le_f, Eq_t, Eq_f, dv_j, not_true_eq_false, not_false_eq_true, Int.reduceEq, Int.reduceAdd, Int.reduceSub, Int.reduceMul, Int.reduceNeg, Ez_t, Ez_f, dv_L, false_and, true_and, and_true, and_false]
          exact hx
        · rw [hst] at h5
          obtain ⟨hfl, x1, x2⟩ := h5
          have hx := flt M5 l1 x (.inr x) rfl hfl ⟨x1, x2⟩ z220 z1 FA FB q0 (fun v M' a b c y => hG v M' a b c (by rw [hst]; exact y))
          rw [Rm_aload_n (k := 0) rfl dX12_town_99]
          simp (disch := omega) only [Rm_getfield fl_12_242 dX12_town_100, Rn_if_ne (t := 121) rfl dX12_town_103, Rm_aload_n (k := 0) rfl dX12_town_106, Rm_inV0 (d := dX12_town_107) (hy := mo_142) (h13 := rfl) ml_12_254 rfl, Rn_iconst (v := jI (-1)) rfl dX12_town_110, Rn_icmp_eq (t := 121) rfl dX12_town_111, Rm_aload_n (k := 0) rfl dX12_town_114, Rm_inV0 (d := dX12_town_115) (hy := mo_166) (h13 := rfl) ml_12_389 rfl, Rn_goto (t := 99) rfl dX12_town_118, gs12_5 k218, io12 k218, io12 k218, q0, y5, e4, e5, qI_s, qJ_s, qR_s, qV_s, qX_s, qN_s, qW_s, qF_s, qC_s, Option.bind_some, Option.bind_none, Nat.reduceAdd, Nat.reduceBEq, Nat.reduceEqDiff, lk_nil, lk_cons, lk_pt1, lk_pt2i, isJ_i, isJ_r, isJ_l, gI_i, gJ_i, gR_i, Bool.false_eq_true, if_true, if_false, ite_true, ite_false, ↓reduceIte, len4_0, len4_1, len4_2, len4_3, len4_4, Option.toList_some, Option.toList_none, List.cons_append, List.nil_append, va_rf_s, up_hp, ofI_j, jI_add, jI_sub, jI_mul, jI_neg, jL_add, jL_sub, jL_mul, jI_jL, jL_jI, nar_i, nar_zj, lt_t, lt_f, le_t, le_f, eq_t, eq_f, ez_t, ez_f, lz_t, lz_f, gz_t, gz_f, nz_t, nz_f, pz_t, pz_f, lgc_gt, lgc_lt, lgc_ge, lgc_le, lgc_eq, Lt_t, Lt_f, Le_t, Le_f, Eq_t, Eq_f, dv_j, not_true_eq_false, not_false_eq_true, Int.reduceEq, Int.reduceAdd, Int.reduceSub, Int.reduceMul, Int.reduceNeg, Ez_t, Ez_f, dv_L, false_and, true_and, and_true, and_false]
          exact hx
  let M0 := st (st (st (st (st (st (st (st M 218 3 (k : Nat)) 218 1 0) 218 2 0) 218 4 (-1)) 218 5 0) 218 6 (-1)) 218 50 0) 218 49 0
  let M1 := setc M0 250 (rowF 0 (fun _ => 0) 5 (M0 250))
  let M2 := st (st (st (st (st M1 255 0 5) 255 1 18) 255 2 0) 256 0 (-1)) 256 1 (-1)
  have G218 : M2 218 = M0 218 := by
    dsimp only [M2, M1]
    rw [st_ne _ _ _ (by omega), st_ne _ _ _ (by omega), st_ne _ _ _ (by omega), st_ne _ _ _ (by omega), st_ne _ _ _ (by omega), setc_ne _ _ (by omega)]
  have f3 : M0 218 3 = (k : Nat) := by
    dsimp only [M0]
    rw [st_self, su_ne _ _ (by omega), st_self, su_ne _ _ (by omega), st_self, su_ne _ _ (by omega), st_self, su_ne _ _ (by omega), st_self, su_ne _ _ (by omega), st_self, su_ne _ _ (by omega), st_self, su_ne _ _ (by omega), st_self, su_self]
  have f1 : M0 218 1 = 0 := by
    dsimp only [M0]
    rw [st_self, su_ne _ _ (by omega), st_self, su_ne _ _ (by omega), st_self, su_ne _ _ (by omega), st_self, su_ne _ _ (by omega), st_self, su_ne _ _ (by omega), st_self, su_ne _ _ (by omega), st_self, su_self]
  have f2 : M0 218 2 = 0 := by
    dsimp only [M0]
    rw [st_self, su_ne _ _ (by omega), st_self, su_ne _ _ (by omega), st_self, su_ne _ _ (by omega), st_self, su_ne _ _ (by omega), st_self, su_ne _ _ (by omega), st_self, su_self]
  have f4 : M0 218 4 = -1 := by
    dsimp only [M0]
    rw [st_self, su_ne _ _ (by omega), st_self, su_ne _ _ (by omega), st_self, su_ne _ _ (by omega), st_self, su_ne _ _ (by omega), st_self, su_self]
  have f5 : M0 218 5 = 0 := by
    dsimp only [M0]
    rw [st_self, su_ne _ _ (by omega), st_self, su_ne _ _ (by omega), st_self, su_ne _ _ (by omega), st_self, su_self]
  have f6 : M0 218 6 = -1 := by
    dsimp only [M0]
    rw [st_self, su_ne _ _ (by omega), st_self, su_ne _ _ (by omega), st_self, su_self]
  have f50 : M0 218 50 = 0 := by
    dsimp only [M0]
    rw [st_self, su_ne _ _ (by omega), st_self, su_self]
  have f49 : M0 218 49 = 0 := by
    dsimp only [M0]
    rw [st_self, su_self]
  have fo : ∀ i, ¬ (i = 1 ∨ i = 2 ∨ i = 3 ∨ i = 4 ∨ i = 5 ∨ i = 6 ∨ i = 39 ∨ i = 49 ∨ i = 50 ∨ i = 51 ∨ i = 92 ∨ i = 94 ∨ i = 95 ∨ i = 96) → M0 218 i = M 218 i := fun i hi => by
    simp only [not_or] at hi
    dsimp only [M0]
    rw [st_self, su_ne _ _ hi.2.2.2.2.2.2.2.1, st_self, su_ne _ _ hi.2.2.2.2.2.2.2.2.1, st_self, su_ne _ _ hi.2.2.2.2.2.1, st_self, su_ne _ _ hi.2.2.2.2.1, st_self, su_ne _ _ hi.2.2.2.1, st_self, su_ne _ _ hi.2.1, st_self, su_ne _ _ hi.1, st_self, su_ne _ _ hi.2.2.1]
  have Fne : ∀ b, ¬ b = 218 → M0 b = M b := fun b hb => by
    dsimp only [M0]
    rw [st_ne _ _ _ hb, st_ne _ _ _ hb, st_ne _ _ _ hb, st_ne _ _ _ hb, st_ne _ _ _ hb, st_ne _ _ _ hb, st_ne _ _ _ hb, st_ne _ _ _ hb]
  have KW1 : KW M0 M1 := fun b i hbi => by
    by_cases qb : b = 250
    · subst qb
      dsimp only [M1]
      rw [setc_self]
      rcases Int.lt_or_le i 5 with h | h
      · exact absurd (okW_250 h) hbi
      · exact rowF_hi (by omega)
    · dsimp only [M1]
      rw [setc_ne _ _ qb]
  have KW2 : KW M0 M2 := KW_st (KW_st (KW_st (KW_st (KW_st KW1 (okW_255 (by omega))) (okW_255 (by omega))) (okW_255 (by omega))) (okW_256 (by omega))) (okW_256 (by omega))
  have hP2 : PQ g k 0 false M2 := by
    have sk := skp_prop (g := g) (k := k) (e := 0) (by omega)
    refine ⟨by rw [KW_out KW2 (by omega), Fne 219 (by omega)]; exact hg, by rw [G218]; exact f3, by rw [G218, f2]; omega, Or.inr ⟨rfl, by rw [G218, f4]; omega⟩, by rw [G218]; exact f5, by rw [G218, f4]; omega, by rw [G218]; exact f6⟩
  have h250 : ∀ i : Int, 0 ≤ i → i < 5 → M2 250 i = 0 := fun i i0 i1 => by
    dsimp only [M2, M1]
    rw [st_ne _ _ _ (by omega), st_ne _ _ _ (by omega), st_ne _ _ _ (by omega), st_ne _ _ _ (by omega), st_ne _ _ _ (by omega), setc_self, rowF_in i0 (by omega)]
  have hWK2 : WK M2 := WK_W (fun p hpp i hi => by
    have qq : ∀ p ∈ wcL, ¬ p.1 = 218 := by decide +kernel
    rw [Fne _ (qq p hpp)]
    exact hWK p hpp i hi) KW2
  have hx := fun l1 q0 => key 60 0 (0, false) B0 0 M2 (by omega) (by show 0 ≤ k; omega) hP2 (B0_CN0 h250) (B0_BD0 (by rw [G218]; exact f49) (by dsimp only [M2]; rw [st_self, su_ne _ _ (by omega), st_self, su_self]) (by dsimp only [M2]; rw [st_self, su_self]) (by dsimp only [M2]; rw [st_ne _ _ _ (by omega), st_ne _ _ _ (by omega), st_self, su_ne _ _ (by omega), st_self, su_ne _ _ (by omega), st_self, su_self]) (by dsimp only [M2]; rw [st_ne _ _ _ (by omega), st_ne _ _ _ (by omega), st_self, su_ne _ _ (by omega), st_self, su_self]) (by dsimp only [M2]; rw [st_ne _ _ _ (by omega), st_ne _ _ _ (by omega), st_self, su_self])) (by omega) wfB_0 (by rw [G218]; exact f50) (by rw [G218]; exact f6) (by rw [G218]; exact f1) hWK2 (by rw [KW_out KW2 (by omega), Fne 220 (by omega)]) (fun b i hb hb2 => by rw [KW2 b i hb, Fne b hb2]) (fun i hi => by rw [G218]; exact fo i hi) l1 q0 (fun v M' a b c x => hG v M' ⟨a, b, c, x⟩)
  have hlp : ∀ l1, lk l1 0 = some (.ref 218) → G (Rn (X (d + 14)) 12 (some .int) false 2 cX12_town (43, l1, [], (n, z, hp H M0))) := by
    intro l0 q00
    rw [Rn_iconst (v := jI 0) rfl dX12_town_43]
    simp (disch := omega) only [Rn_istore_n (k := 1) (nL := 2) rfl rfl dX12_town_44, qI_s, qJ_s, qR_s, qV_s, qX_s, qN_s, qW_s, qF_s, qC_s, Option.bind_some, Option.bind_none, Nat.reduceAdd, Nat.reduceBEq, Nat.reduceEqDiff, lk_nil, lk_cons, lk_pt1, lk_pt2i, isJ_i, isJ_r, isJ_l, gI_i, gJ_i, gR_i, Bool.false_eq_true, if_true, if_false, ite_true, ite_false, ↓reduceIte, len4_0, len4_1, len4_2, len4_3, len4_4, Option.toList_some, Option.toList_none, List.cons_append, List.nil_append, va_rf_s, up_hp, ofI_j, jI_add, jI_sub, jI_mul, jI_neg, jL_add, jL_sub, jL_mul, jI_jL, jL_jI, nar_i, nar_zj, lt_t, lt_f, le_t, le_f, eq_t, eq_f, ez_t, ez_f, lz_t, lz_f, gz_t, gz_f, nz_t, nz_f, pz_t, pz_f, lgc_gt, lgc_lt, lgc_ge, lgc_le, lgc_eq, Lt_t, Lt_f, Le_t, Le_f, Eq_t, Eq_f, dv_j, not_true_eq_false, not_false_eq_true, Int.reduceEq, Int.reduceAdd, Int.reduceSub, Int.reduceMul, Int.reduceNeg, Ez_t, Ez_f, dv_L, false_and, true_and, and_true, and_false]
    refine Rn_for 5 (fun j l1 M3 => M3 = setc M0 250 (rowF 0 (fun _ => 0) j (M0 250)) ∧ lk l1 0 = some (.ref 218) ∧ lk l1 1 = some (.int (jI j))) G ?_ ?_ 0 (Nat.zero_le _) _ _ ?_
    · rintro j hj l1 M3 ⟨rfl, q0, q1⟩ ih
      rw [Rm_iload_n (k := 1) rfl dX12_town_45]
      simp (disch := omega) only [Rn_iconst (v := jI (5)) rfl dX12_town_46, Rn_icmp_ge (t := 63) rfl dX12_town_47, Rm_aload_n (k := 0) rfl dX12_town_50, Rm_getfield fl_12_108 dX12_town_51, Rm_iload_n (k := 1) rfl dX12_town_54, Rn_iconst (v := jI (0)) rfl dX12_town_55, Rm_iastore dX12_town_56, Rm_iinc (nL := 2) rfl dX12_town_57, Rn_goto (t := 45) rfl dX12_town_60, gs12_40 k218, rdM k250 l250, wrM k250 l250, alM k250 l250, q0, q1, qI_s, qJ_s, qR_s, qV_s, qX_s, qN_s, qW_s, qF_s, qC_s, Option.bind_some, Option.bind_none, Nat.reduceAdd, Nat.reduceBEq, Nat.reduceEqDiff, lk_nil, lk_cons, lk_pt1, lk_pt2i, isJ_i, isJ_r, isJ_l, gI_i, gJ_i, gR_i, Bool.false_eq_true, if_true, if_false, ite_true, ite_false, ↓reduceIte, len4_0, len4_1, len4_2, len4_3, len4_4, Option.toList_some, Option.toList_none, List.cons_append, List.nil_append, va_rf_s, up_hp, ofI_j, jI_add, jI_sub, jI_mul, jI_neg, jL_add, jL_sub, jL_mul, jI_jL, jL_jI, nar_i, nar_zj, lt_t, lt_f, le_t, le_f, eq_t, eq_f, ez_t, ez_f, lz_t, lz_f, gz_t, gz_f, nz_t, nz_f, pz_t, pz_f, lgc_gt, lgc_lt, lgc_ge, lgc_le, lgc_eq, Lt_t, Lt_f, Le_t, Le_f, Eq_t, Eq_f, dv_j, not_true_eq_false, not_false_eq_true, Int.reduceEq, Int.reduceAdd, Int.reduceSub, Int.reduceMul, Int.reduceNeg, Ez_t, Ez_f, dv_L, false_and, true_and, and_true, and_false]
      refine ih _ _ ⟨?_, by simp [Option.bind_some, Option.bind_none, Nat.reduceAdd, Nat.reduceBEq, Nat.reduceEqDiff, lk_nil, lk_cons, lk_pt1, lk_pt2, lk_pt2b, isJ_i, isJ_r, isJ_l, gI_i, gJ_i, gR_i, Bool.false_eq_true, if_true, if_false, ite_true, ite_false, reduceIte, len4_0, len4_1, len4_2, len4_3, len4_4, Option.toList_some, Option.toList_none, List.cons_append, List.nil_append, gf_o, isO_o, pf_o, List.length_cons, List.length_nil, List.getElem?_cons_zero, List.getElem?_cons_succ, List.set_cons_zero, List.set_cons_succ, va_rf_s, up_self, rdi_a, rdi_5, rdi_0, rdi_4, wri_a, rdl_a, wrl_a, rdr_a, wrr_a, aln_0, aln_1, aln_3, aln_4, aln_5, ofI_1, ofI_m1, q0], by simp [Option.bind_some, Option.bind_none, Nat.reduceAdd, Nat.reduceBEq, Nat.reduceEqDiff, lk_nil, lk_cons, lk_pt1, lk_pt2, lk_pt2b, isJ_i, isJ_r, isJ_l, gI_i, gJ_i, gR_i, Bool.false_eq_true, if_true, if_false, ite_true, ite_false, reduceIte, len4_0, len4_1, len4_2, len4_3, len4_4, Option.toList_some, Option.toList_none, List.cons_append, List.nil_append, gf_o, isO_o, pf_o, List.length_cons, List.length_nil, List.getElem?_cons_zero, List.getElem?_cons_succ, List.set_cons_zero, List.set_cons_succ, va_rf_s, up_self, rdi_a, rdi_5, rdi_0, rdi_4, wri_a, rdl_a, wrl_a, rdr_a, wrr_a, aln_0, aln_1, aln_3, aln_4, aln_5, ofI_1, ofI_m1]⟩
      have := rowF_su 0 (fun _ => 0) (M0 250) j
      rw [Int.zero_add] at this
      rw [st_setc, this]
    · rintro l1 M3 ⟨rfl, q0, q1⟩
      have r := hx l1 q0
      rw [Rm_iload_n (k := 1) rfl dX12_town_45]
      simp (disch := omega) only [Rn_iconst (v := jI (5)) rfl dX12_town_46, Rn_icmp_ge (t := 63) rfl dX12_town_47, Rm_aload_n (k := 0) rfl dX12_town_63, Rm_getfield fl_12_124 dX12_town_64, Rn_iconst (v := jI (0)) rfl dX12_town_67, Rn_iconst (v := jI (5)) rfl dX12_town_68, Rm_iastore dX12_town_69, Rm_aload_n (k := 0) rfl dX12_town_70, Rm_getfield fl_12_124 dX12_town_71, Rn_iconst (v := jI (1)) rfl dX12_town_74, Rn_bipush (v := jI (18)) rfl dX12_town_75, Rm_iastore dX12_town_77, Rm_aload_n (k := 0) rfl dX12_town_78, Rm_getfield fl_12_124 dX12_town_79, Rn_iconst (v := jI (2)) rfl dX12_town_82, Rn_iconst (v := jI (0)) rfl dX12_town_83, Rm_iastore dX12_town_84, Rm_aload_n (k := 0) rfl dX12_town_85, Rm_getfield fl_12_127 dX12_town_86, Rn_iconst (v := jI (0)) rfl dX12_town_89, Rn_iconst (v := jI (-1)) rfl dX12_town_90, Rm_iastore dX12_town_91, Rm_aload_n (k := 0) rfl dX12_town_92, Rm_getfield fl_12_127 dX12_town_93, Rn_iconst (v := jI (1)) rfl dX12_town_96, Rn_iconst (v := jI (-1)) rfl dX12_town_97, Rm_iastore dX12_town_98, gs12_45 k218, rdM k255 l255, wrM k255 l255, alM k255 l255, gs12_46 k218, rdM k256 l256, wrM k256 l256, alM k256 l256, q0, q1, Int.cast_ofNat_Int, qI_s, qJ_s, qR_s, qV_s, qX_s, qN_s, qW_s, qF_s, qC_s, Option.bind_some, Option.bind_none, Nat.reduceAdd, Nat.reduceBEq, Nat.reduceEqDiff, lk_nil, lk_cons, lk_pt1, lk_pt2i, isJ_i, isJ_r, isJ_l, gI_i, gJ_i, gR_i, Bool.false_eq_true, if_true, if_false, ite_true, ite_false, ↓reduceIte, len4_0, len4_1, len4_2, len4_3, len4_4, Option.toList_some, Option.toList_none, List.cons_append, List.nil_append, va_rf_s, up_hp, ofI_j, jI_add, jI_sub, jI_mul, jI_neg, jL_add, jL_sub, jL_mul, jI_jL, jL_jI, nar_i, nar_zj, lt_t, lt_f, le_t, le_f, eq_t, eq_f, ez_t, ez_f, lz_t, lz_f, gz_t, gz_f, nz_t, nz_f, pz_t, pz_f, lgc_gt, lgc_lt, lgc_ge, lgc_le, lgc_eq, Lt_t, Lt_f, Le_t, Le_f, Eq_t, Eq_f, dv_j, not_true_eq_false, not_false_eq_true, Int.reduceEq, Int.reduceAdd, Int.reduceSub, Int.reduceMul, Int.reduceNeg, Ez_t, Ez_f, dv_L, false_and, true_and, and_true, and_false]
      exact r
    · exact ⟨by rw [rowF_0, setc_id], by simp [Option.bind_some, Option.bind_none, Nat.reduceAdd, Nat.reduceBEq, Nat.reduceEqDiff, lk_nil, lk_cons, lk_pt1, lk_pt2, lk_pt2b, isJ_i, isJ_r, isJ_l, gI_i, gJ_i, gR_i, Bool.false_eq_true, if_true, if_false, ite_true, ite_false, reduceIte, len4_0, len4_1, len4_2, len4_3, len4_4, Option.toList_some, Option.toList_none, List.cons_append, List.nil_append, gf_o, isO_o, pf_o, List.length_cons, List.length_nil, List.getElem?_cons_zero, List.getElem?_cons_succ, List.set_cons_zero, List.set_cons_succ, va_rf_s, up_self, rdi_a, rdi_5, rdi_0, rdi_4, wri_a, rdl_a, wrl_a, rdr_a, wrr_a, aln_0, aln_1, aln_3, aln_4, aln_5, ofI_1, ofI_m1, q00], by simp [Option.bind_some, Option.bind_none, Nat.reduceAdd, Nat.reduceBEq, Nat.reduceEqDiff, lk_nil, lk_cons, lk_pt1, lk_pt2, lk_pt2b, isJ_i, isJ_r, isJ_l, gI_i, gJ_i, gR_i, Bool.false_eq_true, if_true, if_false, ite_true, ite_false, reduceIte, len4_0, len4_1, len4_2, len4_3, len4_4, Option.toList_some, Option.toList_none, List.cons_append, List.nil_append, gf_o, isO_o, pf_o, List.length_cons, List.length_nil, List.getElem?_cons_zero, List.getElem?_cons_succ, List.set_cons_zero, List.set_cons_succ, va_rf_s, up_self, rdi_a, rdi_5, rdi_0, rdi_4, wri_a, rdl_a, wrl_a, rdr_a, wrr_a, aln_0, aln_1, aln_3, aln_4, aln_5, ofI_1, ofI_m1]⟩
  have h1' : M 218 1 = (k : Int) := h1
  rw [Xe_X12_town]
  simp (disch := omega) only [Rm_aload_n (k := 0) rfl dX12_town_0, Rm_aload_n (k := 0) rfl dX12_town_1, Rm_getfield fl_12_239 dX12_town_2, Rm_putfieldI (ini := false) fl_12_251 rfl rfl dX12_town_5, Rm_aload_n (k := 0) rfl dX12_town_8, Rn_iconst (v := jI (0)) rfl dX12_town_9, Rm_putfieldI (ini := false) fl_12_239 rfl rfl dX12_town_10, Rm_aload_n (k := 0) rfl dX12_town_13, Rn_iconst (v := jI (0)) rfl dX12_town_14, Rm_putfieldI (ini := false) fl_12_248 rfl rfl dX12_town_15, Rm_aload_n (k := 0) rfl dX12_town_18, Rn_iconst (v := jI (-1)) rfl dX12_town_19, Rm_putfieldI (ini := false) fl_12_262 rfl rfl dX12_town_20, Rm_aload_n (k := 0) rfl dX12_town_23, Rn_iconst (v := jI (0)) rfl dX12_town_24, Rm_putfieldI (ini := false) fl_12_242 rfl rfl dX12_town_25, Rm_aload_n (k := 0) rfl dX12_town_28, Rn_iconst (v := jI (-1)) rfl dX12_town_29, Rm_putfieldI (ini := false) fl_12_245 rfl rfl dX12_town_30, Rm_aload_n (k := 0) rfl dX12_town_33, Rn_iconst (v := jI (0)) rfl dX12_town_34, Rm_putfieldI (ini := false) fl_12_365 rfl rfl dX12_town_35, Rm_aload_n (k := 0) rfl dX12_town_38, Rn_iconst (v := jI (0)) rfl dX12_town_39, Rm_putfieldI (ini := false) fl_12_338 rfl rfl dX12_town_40, gs12_1 k218, ps12_1 k218, ps12_2 k218, ps12_3 k218, ps12_4 k218, ps12_5 k218, ps12_6 k218, ps12_49 k218, ps12_50 k218, h1', qI_s, qJ_s, qR_s, qV_s, qX_s, qN_s, qW_s, qF_s, qC_s, Option.bind_some, Option.bind_none, Nat.reduceAdd, Nat.reduceBEq, Nat.reduceEqDiff, lk_nil, lk_cons, lk_pt1, lk_pt2i, isJ_i, isJ_r, isJ_l, gI_i, gJ_i, gR_i, Bool.false_eq_true, if_true, if_false, ite_true, ite_false, ↓reduceIte, len4_0, len4_1, len4_2, len4_3, len4_4, Option.toList_some, Option.toList_none, List.cons_append, List.nil_append, va_rf_s, up_hp, ofI_j, jI_add, jI_sub, jI_mul, jI_neg, jL_add, jL_sub, jL_mul, jI_jL, jL_jI, nar_i, nar_zj, lt_t, lt_f, le_t, le_f, eq_t, eq_f, ez_t, ez_f, lz_t, lz_f, gz_t, gz_f, nz_t, nz_f, pz_t, pz_f, lgc_gt, lgc_lt, lgc_ge, lgc_le, lgc_eq, Lt_t, Lt_f, Le_t, Le_f, Eq_t, Eq_f, dv_j, not_true_eq_false, not_false_eq_true, Int.reduceEq, Int.reduceAdd, Int.reduceSub, Int.reduceMul, Int.reduceNeg, Ez_t, Ez_f, dv_L, false_and, true_and, and_true, and_false]
  exact hlp _ (by simp [Option.bind_some, Option.bind_none, Nat.reduceAdd, Nat.reduceBEq, Nat.reduceEqDiff, lk_nil, lk_cons, lk_pt1, lk_pt2, lk_pt2b, isJ_i, isJ_r, isJ_l, gI_i, gJ_i, gR_i, Bool.false_eq_true, if_true, if_false, ite_true, ite_false, reduceIte, len4_0, len4_1, len4_2, len4_3, len4_4, Option.toList_some, Option.toList_none, List.cons_append, List.nil_append, gf_o, isO_o, pf_o, List.length_cons, List.length_nil, List.getElem?_cons_zero, List.getElem?_cons_succ, List.set_cons_zero, List.set_cons_succ, va_rf_s, up_self, rdi_a, rdi_5, rdi_0, rdi_4, wri_a, rdl_a, wrl_a, rdr_a, wrr_a, aln_0, aln_1, aln_3, aln_4, aln_5, ofI_1, ofI_m1])
end

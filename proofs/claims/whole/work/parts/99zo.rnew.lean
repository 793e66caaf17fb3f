/-! a town told: new names, those that are there: the reference -/
section
variable {n z : Nat} {H : Nat → AC} {M : Me} {g : Int → Int} {k e : Nat} {nb : Bool}
theorem hasN_4 {B : BT} {L : List Nat} : hasN B L ↔ ¬ fnd (B.2.1 0) L (cntK B.1 0) = none ∨ ¬ fnd (B.2.1 1) L (cntK B.1 1) = none ∨ ¬ fnd (B.2.1 2) L (cntK B.1 2) = none ∨ ¬ fnd (B.2.1 3) L (cntK B.1 3) = none := by
  constructor
  · rintro ⟨kind, h1, h2⟩
    rcases (show kind = 0 ∨ kind = 1 ∨ kind = 2 ∨ kind = 3 by omega) with rfl | rfl | rfl | rfl
    · exact Or.inl h2
    · exact Or.inr (Or.inl h2)
    · exact Or.inr (Or.inr (Or.inl h2))
    · exact Or.inr (Or.inr (Or.inr h2))
  · rintro (h | h | h | h)
    · exact ⟨0, by omega, h⟩
    · exact ⟨1, by omega, h⟩
    · exact ⟨2, by omega, h⟩
    · exact ⟨3, by omega, h⟩
/-- how telling a new name ends -/
def NwP (g : Int → Int) (k : Nat) (p : Ps) (B : BT) (v : Int) (M' : Me) : Prop := match nmF g k p with
  | .inl (L, q) => v = pkF 0 L ∧ ((¬ hasN B L ∧ PQ g k q.1 q.2 M') ∨ (hasN B L ∧ FL M' 3 (skp g k p.1)))
  | .inr x => FL M' x.1 x.2 ∧ 1 ≤ x.1 ∧ x.1 < 100
set_option maxHeartbeats 8000000 in
theorem m_newName {B : BT} (hb : Byt g k) (hk : k ≤ 1600) (he : e ≤ k) (hP : PQ g k e nb M) (hWK : WK M) (hC : CNR M B) (d : Nat) : ∃ (v : Int) (M' : Me), X (d + 5) 154 [.ref 218] (n, z, hp H M) = some (some (.long (jL v)), (n, z, hp H M')) ∧ KN2 M M' ∧ NwP g k (e, nb) B v M' := by
  refine exL_of fun G hG => ?_
  obtain ⟨v, M1, e1, K1, h1⟩ := m_name (n := n) (z := z) (H := H) hb hk he hP hWK d
  rw [Xe_X12_newName]
  unfold NwP at hG
  unfold NmP at h1
  rcases hnm : nmF g k (e, nb) with ⟨L, q⟩ | x
  · rw [hnm] at h1 hG
    obtain ⟨rfl, hPQ, y39⟩ := h1
    dsimp only at y39
    obtain ⟨-, -, -, wL, -⟩ := nmF_in (p := (e, nb)) he hnm
    have rL := pkF_6 wL.2 wL.1.2
    have hC1 : CNR M1 B := CNR_keep hC (K1.1 _ (by omega)) (K1.1 _ (by omega))
    have y5 : M1 218 5 = 0 := hPQ.2.2.2.2.1
    have ff := m_fail0 (n := n) (z := z) (H := H) (M := M1) (a := 3) (p := skp g k e) y5 (d + 3)
    have yf : (st (st M1 218 5 3) 218 6 (skp g k e)) 218 5 = 3 := by rw [st_self, su_ne _ _ (by omega), st_self, su_self]
    have e0' := m_nameOf (n := n) (z := z) (H := H) (show 0 < 4 by omega) hC1 wL.2 rL (d + 3)
    have e1' := m_nameOf (n := n) (z := z) (H := H) (show 1 < 4 by omega) hC1 wL.2 rL (d + 3)
    have e2' := m_nameOf (n := n) (z := z) (H := H) (show 2 < 4 by omega) hC1 wL.2 rL (d + 3)
    have e3' := m_nameOf (n := n) (z := z) (H := H) (show 3 < 4 by omega) hC1 wL.2 rL (d + 3)
    rw [show (((0 : Nat)) : Int) = 0 from rfl] at e0'
    rw [show (((1 : Nat)) : Int) = 1 from rfl] at e1'
    rw [show (((2 : Nat)) : Int) = 2 from rfl] at e2'
    rw [show (((3 : Nat)) : Int) = 3 from rfl] at e3'
    have s0 := fun h => fdV_some (o := fnd (B.2.1 0) L (cntK B.1 0)) rfl h (hC.1 0 (by omega)).2
    have s1 := fun h => fdV_some (o := fnd (B.2.1 1) L (cntK B.1 1)) rfl h (hC.1 1 (by omega)).2
    have s2 := fun h => fdV_some (o := fnd (B.2.1 2) L (cntK B.1 2)) rfl h (hC.1 2 (by omega)).2
    have s3 := fun h => fdV_some (o := fnd (B.2.1 3) L (cntK B.1 3)) rfl h (hC.1 3 (by omega)).2
    have n0 := fdV_none (o := fnd (B.2.1 0) L (cntK B.1 0))
    have n1 := fdV_none (o := fnd (B.2.1 1) L (cntK B.1 1))
    have n2 := fdV_none (o := fnd (B.2.1 2) L (cntK B.1 2))
    have n3 := fdV_none (o := fnd (B.2.1 3) L (cntK B.1 3))
    have hbad : hasN B L → G (some (some (.long (jL (pkF 0 L : Nat))), (n, z, hp H (st (st M1 218 5 3) 218 6 (skp g k e))))) := fun hh => hG _ _ ⟨KN2_st (KN2_st K1 (by omega)) (by omega), rfl, Or.inr ⟨hh, yf, by rw [st_self, su_self]⟩⟩
    have hgood : ¬ hasN B L → G (some (some (.long (jL (pkF 0 L : Nat))), (n, z, hp H M1))) := fun hh => hG _ _ ⟨K1, rfl, Or.inl ⟨hh, hPQ⟩⟩
    rw [hasN_4] at hbad hgood
    clear hG
    generalize fnd (B.2.1 0) L (cntK B.1 0) = o0 at *
    generalize fnd (B.2.1 1) L (cntK B.1 1) = o1 at *
    generalize fnd (B.2.1 2) L (cntK B.1 2) = o2 at *
    generalize fnd (B.2.1 3) L (cntK B.1 3) = o3 at *
    by_cases h0 : o0 = none
    · have y0 := n0 h0
      rw [y0] at e0'
      by_cases h1 : o1 = none
      · have y1 := n1 h1
        rw [y1] at e1'
        by_cases h2 : o2 = none
        · have y2 := n2 h2
          rw [y2] at e2'
          by_cases h3 : o3 = none
          · have y3 := n3 h3
            rw [y3] at e3'
            have r := hgood (fun h => by rcases h with h | h | h | h <;> contradiction)
            simp (disch := omega) only [Rm_aload_n (k := 0) rfl dX12_newName_0, Rm_inV0 (d := dX12_newName_1) (hy := mo_150) (h13 := rfl) ml_12_300 rfl, Rn_lstore_n (k := 1) (nL := 4) rfl rfl dX12_newName_4, Rn_iconst (v := jI (0)) rfl dX12_newName_5, Rn_istore_n (k := 3) (nL := 4) rfl rfl dX12_newName_6, Rm_iload_n (k := 3) rfl dX12_newName_7, Rn_iconst (v := jI (4)) rfl dX12_newName_8, Rn_icmp_ge (t := 44) rfl dX12_newName_9, Rm_aload_n (k := 0) rfl dX12_newName_12, Rm_getfield fl_12_242 dX12_newName_13, Rn_if_ne (t := 38) rfl dX12_newName_16, Rm_aload_n (k := 0) rfl dX12_newName_19, Rm_iload_n (k := 3) rfl dX12_newName_20, Rm_lload_n (k := 1) rfl dX12_newName_21, Rm_inV2 (d := dX12_newName_22) (hy := mo_153) (h13 := rfl) ml_12_304 rfl, Rn_iconst (v := jI (-1)) rfl dX12_newName_25, Rn_icmp_eq (t := 38) rfl dX12_newName_26, Rm_aload_n (k := 0) rfl dX12_newName_29, Rn_iconst (v := jI (3)) rfl dX12_newName_30, Rm_aload_n (k := 0) rfl dX12_newName_31, Rm_getfield fl_12_290 dX12_newName_32, Rm_inV2 (d := dX12_newName_35) (hy := mo_139) (h13 := rfl) ml_12_272 rfl, Rm_iinc (nL := 4) rfl dX12_newName_38, Rn_goto (t := 7) rfl dX12_newName_41, Rm_lload_n (k := 1) rfl dX12_newName_44, Rn_lreturn rfl dX12_newName_45, gs12_5 k218, gs12_39 k218, io12 k218, io12 k218, e1, e0', e1', e2', e3', y5, qI_s, qJ_s, qR_s, qV_s, qX_s, qN_s, qW_s, qF_s, qC_s, Option.bind_some, Option.bind_none, Nat.reduceAdd, Nat.reduceBEq, Nat.reduceEqDiff, lk_nil, lk_cons, lk_pt1, lk_pt2i, isJ_i, isJ_r, isJ_l, gI_i, gJ_i, gR_i, Bool.false_eq_true, if_true, if_false, ite_true, ite_false, ↓reduceIte, len4_0, len4_1, len4_2, len4_3, len4_4, Option.toList_some, Option.toList_none, List.cons_append, List.nil_append, va_rf_s, up_hp, ofI_j, jI_add, jI_sub, jI_mul, jI_neg, jL_add, jL_sub, jL_mul, jI_jL, jL_jI, nar_i, nar_zj, lt_t, lt_f, le_t, le_f, eq_t, eq_f, ez_t, ez_f, lz_t, lz_f, gz_t, gz_f, nz_t, nz_f, pz_t, pz_f, lgc_gt, lgc_lt, lgc_ge, lgc_le, lgc_eq, Lt_t, Lt_f, Le_t, Le_f, Eq_t, Eq_f, dv_j, not_true_eq_false, not_false_eq_true, Int.reduceEq, Int.reduceAdd, Int.reduceSub, Int.reduceMul, Int.reduceNeg, Ez_t, Ez_f, dv_L, false_and, true_and, and_true, and_false]
            exact r
          · have y3 := s3 h3
            have r := hbad (Or.inr (Or.inr (Or.inr h3)))
            simp (disch := omega) only [Rm_aload_n (k := 0) rfl dX12_newName_0, Rm_inV0 (d := dX12_newName_1) (hy := mo_150) (h13 := rfl) ml_12_300 rfl, Rn_lstore_n (k := 1) (nL := 4) rfl rfl dX12_newName_4, Rn_iconst (v := jI (0)) rfl dX12_newName_5, Rn_istore_n (k := 3) (nL := 4) rfl rfl dX12_newName_6, Rm_iload_n (k := 3) rfl dX12_newName_7, Rn_iconst (v := jI (4)) rfl dX12_newName_8, Rn_icmp_ge (t := 44) rfl dX12_newName_9, Rm_aload_n (k := 0) rfl dX12_newName_12, Rm_getfield fl_12_242 dX12_newName_13, Rn_if_ne (t := 38) rfl dX12_newName_16, Rm_aload_n (k := 0) rfl dX12_newName_19, Rm_iload_n (k := 3) rfl dX12_newName_20, Rm_lload_n (k := 1) rfl dX12_newName_21, Rm_inV2 (d := dX12_newName_22) (hy := mo_153) (h13 := rfl) ml_12_304 rfl, Rn_iconst (v := jI (-1)) rfl dX12_newName_25, Rn_icmp_eq (t := 38) rfl dX12_newName_26, Rm_aload_n (k := 0) rfl dX12_newName_29, Rn_iconst (v := jI (3)) rfl dX12_newName_30, Rm_aload_n (k := 0) rfl dX12_newName_31, Rm_getfield fl_12_290 dX12_newName_32, Rm_inV2 (d := dX12_newName_35) (hy := mo_139) (h13 := rfl) ml_12_272 rfl, Rm_iinc (nL := 4) rfl dX12_newName_38, Rn_goto (t := 7) rfl dX12_newName_41, Rm_lload_n (k := 1) rfl dX12_newName_44, Rn_lreturn rfl dX12_newName_45, gs12_5 k218, gs12_39 k218, io12 k218, io12 k218, e1, e0', e1', e2', e3', y5, y39, ff, yf, qI_s, qJ_s, qR_s, qV_s, qX_s, qN_s, qW_s, qF_s, qC_s, Option.bind_some, Option.bind_none, Nat.reduceAdd, Nat.reduceBEq, Nat.reduceEqDiff, lk_nil, lk_cons, lk_pt1, lk_pt2i, isJ_i, isJ_r, isJ_l, gI_i, gJ_i, gR_i, Bool.false_eq_true, if_true, if_false, ite_true, ite_false, ↓reduceIte, len4_0, len4_1, len4_2, len4_3, len4_4, Option.toList_some, Option.toList_none, List.cons_append, List.nil_append, va_rf_s, up_hp, ofI_j, jI_add, jI_sub, jI_mul, jI_neg, jL_add, jL_sub, jL_mul, jI_jL, jL_jI, nar_i, nar_zj, lt_t, lt_f, le_t, le_f, eq_t, eq_f, ez_t, ez_f, lz_t, lz_f, gz_t, gz_f, nz_t, nz_f, pz_t, pz_f, lgc_gt, lgc_lt, lgc_ge, lgc_le, lgc_eq, Lt_t, Lt_f, Le_t, Le_f, Eq_t, Eq_f, dv_j, not_true_eq_false, not_false_eq_true, Int.reduceEq, Int.reduceAdd, Int.reduceSub, Int.reduceMul, Int.reduceNeg, Ez_t, Ez_f, dv_L, false_and, true_and, and_true, and_false]
            exact r
        · have y2 := s2 h2
          have r := hbad (Or.inr (Or.inr (Or.inl h2)))
          simp (disch := omega) only [Rm_aload_n (k := 0) rfl dX12_newName_0, Rm_inV0 (d := dX12_newName_1) (hy := mo_150) (h13 := rfl) ml_12_300 rfl, Rn_lstore_n (k := 1) (nL := 4) rfl rfl dX12_newName_4, Rn_iconst (v := jI (0)) rfl dX12_newName_5, Rn_istore_n (k := 3) (nL := 4) rfl rfl dX12_newName_6, Rm_iload_n (k := 3) rfl dX12_newName_7, Rn_iconst (v := jI (4)) rfl dX12_newName_8, Rn_icmp_ge (t := 44) rfl dX12_newName_9, Rm_aload_n (k := 0) rfl dX12_newName_12, Rm_getfield fl_12_242 dX12_newName_13, Rn_if_ne (t := 38) rfl dX12_newName_16, Rm_aload_n (k := 0) rfl dX12_newName_19, Rm_iload_n (k := 3) rfl dX12_newName_20, Rm_lload_n (k := 1) rfl dX12_newName_21, Rm_inV2 (d := dX12_newName_22) (hy := mo_153) (h13 := rfl) ml_12_304 rfl, Rn_iconst (v := jI (-1)) rfl dX12_newName_25, Rn_icmp_eq (t := 38) rfl dX12_newName_26, Rm_aload_n (k := 0) rfl dX12_newName_29, Rn_iconst (v := jI (3)) rfl dX12_newName_30, Rm_aload_n (k := 0) rfl dX12_newName_31, Rm_getfield fl_12_290 dX12_newName_32, Rm_inV2 (d := dX12_newName_35) (hy := mo_139) (h13 := rfl) ml_12_272 rfl, Rm_iinc (nL := 4) rfl dX12_newName_38, Rn_goto (t := 7) rfl dX12_newName_41, Rm_lload_n (k := 1) rfl dX12_newName_44, Rn_lreturn rfl dX12_newName_45, gs12_5 k218, gs12_39 k218, io12 k218, io12 k218, e1, e0', e1', e2', y5, y39, ff, yf, qI_s, qJ_s, qR_s, qV_s, qX_s, qN_s, qW_s, qF_s, qC_s, Option.bind_some, Option.bind_none, Nat.reduceAdd, Nat.reduceBEq, Nat.reduceEqDiff, lk_nil, lk_cons, lk_pt1, lk_pt2i, isJ_i, isJ_r, isJ_l, gI_i, gJ_i, gR_i, Bool.false_eq_true, if_true, if_false, ite_true, ite_false, ↓reduceIte, len4_0, len4_1, len4_2, len4_3, len4_4, Option.toList_some, Option.toList_none, List.cons_append, List.nil_append, va_rf_s, up_hp, ofI_j, jI_add, jI_sub, jI_mul, jI_neg, jL_add, jL_sub, jL_mul, jI_jL, jL_jI, nar_i, nar_zj, lt_t, lt_f, le_t, le_f, eq_t, eq_f, ez_t, ez_f, lz_t, lz_f, gz_t, gz_f, nz_t, nz_f, pz_t, pz_f, lgc_gt, lgc_lt, lgc_ge, lgc_le, lgc_eq, Lt_t, Lt_f, Le_t, Le_f, Eq_t, Eq_f, dv_j, not_true_eq_false, not_false_eq_true, Int.reduceEq, Int.reduceAdd, Int.reduceSub, Int.reduceMul, Int.reduceNeg, Ez_t, Ez_f, dv_L, false_and, true_and, and_true, and_false]
          exact r
      · have y1 := s1 h1
        have r := hbad (Or.inr (Or.inl h1))
        simp (disch := omega) only [Rm_aload_n (k := 0) rfl dX12_newName_0, Rm_inV0 (d := dX12_newName_1) (hy := mo_150) (h13 := rfl) ml_12_300 rfl, Rn_lstore_n (k := 1) (nL := 4) rfl rfl dX12_newName_4, Rn_iconst (v := jI (0)) rfl dX12_newName_5, Rn_istore_n (k := 3) (nL := 4) rfl rfl dX12_newName_6, Rm_iload_n (k := 3) rfl dX12_newName_7, Rn_iconst (v := jI (4)) rfl dX12_newName_8, Rn_icmp_ge (t := 44) rfl dX12_newName_9, Rm_aload_n (k := 0) rfl dX12_newName_12, Rm_getfield fl_12_242 dX12_newName_13, Rn_if_ne (t := 38) rfl dX12_newName_16, Rm_aload_n (k := 0) rfl dX12_newName_19, Rm_iload_n (k := 3) rfl dX12_newName_20, Rm_lload_n (k := 1) rfl dX12_newName_21, Rm_inV2 (d := dX12_newName_22) (hy := mo_153) (h13 := rfl) ml_12_304 rfl, Rn_iconst (v := jI (-1)) rfl dX12_newName_25, Rn_icmp_eq (t := 38) rfl dX12_newName_26, Rm_aload_n (k := 0) rfl dX12_newName_29, Rn_iconst (v := jI (3)) rfl dX12_newName_30, Rm_aload_n (k := 0) rfl dX12_newName_31, Rm_getfield fl_12_290 dX12_newName_32, Rm_inV2 (d := dX12_newName_35) (hy := mo_139) (h13 := rfl) ml_12_272 rfl, Rm_iinc (nL := 4) rfl dX12_newName_38, Rn_goto (t := 7) rfl dX12_newName_41, Rm_lload_n (k := 1) rfl dX12_newName_44, Rn_lreturn rfl dX12_newName_45, gs12_5 k218, gs12_39 k218, io12 k218, io12 k218, e1, e0', e1', y5, y39, ff, yf, qI_s, qJ_s, qR_s, qV_s, qX_s, qN_s, qW_s, qF_s, qC_s, Option.bind_some, Option.bind_none, Nat.reduceAdd, Nat.reduceBEq, Nat.reduceEqDiff, lk_nil, lk_cons, lk_pt1, lk_pt2i, isJ_i, isJ_r, isJ_l, gI_i, gJ_i, gR_i, Bool.false_eq_true, if_true, if_false, ite_true, ite_false, ↓reduceIte, len4_0, len4_1, len4_2, len4_3, len4_4, Option.toList_some, Option.toList_none, List.cons_append, List.nil_append, va_rf_s, up_hp, ofI_j, jI_add, jI_sub, jI_mul, jI_neg, jL_add, jL_sub, jL_mul, jI_jL, jL_jI, nar_i, nar_zj, lt_t, lt_f, le_t, le_f, eq_t, eq_f, ez_t, ez_f, lz_t, lz_f, gz_t, gz_f, nz_t, nz_f, pz_t, pz_f, lgc_gt, lgc_lt, lgc_ge, lgc_le, lgc_eq, Lt_t, Lt_f, Le_t, Le_f, Eq_t, Eq_f, dv_j, not_true_eq_false, not_false_eq_true, Int.reduceEq, Int.reduceAdd, Int.reduceSub, Int.reduceMul, Int.reduceNeg, Ez_t, Ez_f, dv_L, false_and, true_and, and_true, and_false]
        exact r
    · have y0 := s0 h0
      have r := hbad (Or.inl h0)
      simp (disch := omega) only [Rm_aload_n (k := 0) rfl dX12_newName_0, Rm_inV0 (d := dX12_newName_1) (hy := mo_150) (h13 := rfl) ml_12_300 rfl, Rn_lstore_n (k := 1) (nL := 4) rfl rfl dX12_newName_4, Rn_iconst (v := jI (0)) rfl dX12_newName_5, Rn_istore_n (k := 3) (nL := 4) rfl rfl dX12_newName_6, Rm_iload_n (k := 3) rfl dX12_newName_7, Rn_iconst (v := jI (4)) rfl dX12_newName_8, Rn_icmp_ge (t := 44) rfl dX12_newName_9, Rm_aload_n (k := 0) rfl dX12_newName_12, Rm_getfield fl_12_242 dX12_newName_13, Rn_if_ne (t := 38) rfl dX12_newName_16, Rm_aload_n (k := 0) rfl dX12_newName_19, Rm_iload_n (k := 3) rfl dX12_newName_20, Rm_lload_n (k := 1) rfl dX12_newName_21, Rm_inV2 (d := dX12_newName_22) (hy := mo_153) (h13 := rfl) ml_12_304 rfl, Rn_iconst (v := jI (-1)) rfl dX12_newName_25, Rn_icmp_eq (t := 38) rfl dX12_newName_26, Rm_aload_n (k := 0) rfl dX12_newName_29, Rn_iconst (v := jI (3)) rfl dX12_newName_30, Rm_aload_n (k := 0) rfl dX12_newName_31, Rm_getfield fl_12_290 dX12_newName_32, Rm_inV2 (d := dX12_newName_35) (hy := mo_139) (h13 := rfl) ml_12_272 rfl, Rm_iinc (nL := 4) rfl dX12_newName_38, Rn_goto (t := 7) rfl dX12_newName_41, Rm_lload_n (k := 1) rfl dX12_newName_44, Rn_lreturn rfl dX12_newName_45, gs12_5 k218, gs12_39 k218, io12 k218, io12 k218, e1, e0', y5, y39, ff, yf, qI_s, qJ_s, qR_s, qV_s, qX_s, qN_s, qW_s, qF_s, qC_s, Option.bind_some, Option.bind_none, Nat.reduceAdd, Nat.reduceBEq, Nat.reduceEqDiff, lk_nil, lk_cons, lk_pt1, lk_pt2i, isJ_i, isJ_r, isJ_l, gI_i, gJ_i, gR_i, Bool.false_eq_true, if_true, if_false, ite_true, ite_false, ↓reduceIte, len4_0, len4_1, len4_2, len4_3, len4_4, Option.toList_some, Option.toList_none, List.cons_append, List.nil_append, va_rf_s, up_hp, ofI_j, jI_add, jI_sub, jI_mul, jI_neg, jL_add, jL_sub, jL_mul, jI_jL, jL_jI, nar_i, nar_zj, lt_t, lt_f, le_t, le_f, eq_t, eq_f, ez_t, ez_f, lz_t, lz_f, gz_t, gz_f, nz_t, nz_f, pz_t, pz_f, lgc_gt, lgc_lt, lgc_ge, lgc_le, lgc_eq, Lt_t, Lt_f, Le_t, Le_f, Eq_t, Eq_f, dv_j, not_true_eq_false, not_false_eq_true, Int.reduceEq, Int.reduceAdd, Int.reduceSub, Int.reduceMul, Int.reduceNeg, Ez_t, Ez_f, dv_L, false_and, true_and, and_true, and_false]
      exact r
  · rw [hnm] at h1 hG
    obtain ⟨rfl, hfl, x1, x2⟩ := h1
    have y5 : M1 218 5 = (x.1 : Nat) := hfl.1
    have r := hG 0 M1 ⟨K1, hfl, x1, x2⟩
    simp (disch := omega) only [Rm_aload_n (k := 0) rfl dX12_newName_0, Rm_inV0 (d := dX12_newName_1) (hy := mo_150) (h13 := rfl) ml_12_300 rfl, Rn_lstore_n (k := 1) (nL := 4) rfl rfl dX12_newName_4, Rn_iconst (v := jI (0)) rfl dX12_newName_5, Rn_istore_n (k := 3) (nL := 4) rfl rfl dX12_newName_6, Rm_iload_n (k := 3) rfl dX12_newName_7, Rn_iconst (v := jI (4)) rfl dX12_newName_8, Rn_icmp_ge (t := 44) rfl dX12_newName_9, Rm_aload_n (k := 0) rfl dX12_newName_12, Rm_getfield fl_12_242 dX12_newName_13, Rn_if_ne (t := 38) rfl dX12_newName_16, Rm_aload_n (k := 0) rfl dX12_newName_19, Rm_iload_n (k := 3) rfl dX12_newName_20, Rm_lload_n (k := 1) rfl dX12_newName_21, Rm_inV2 (d := dX12_newName_22) (hy := mo_153) (h13 := rfl) ml_12_304 rfl, Rn_iconst (v := jI (-1)) rfl dX12_newName_25, Rn_icmp_eq (t := 38) rfl dX12_newName_26, Rm_aload_n (k := 0) rfl dX12_newName_29, Rn_iconst (v := jI (3)) rfl dX12_newName_30, Rm_aload_n (k := 0) rfl dX12_newName_31, Rm_getfield fl_12_290 dX12_newName_32, Rm_inV2 (d := dX12_newName_35) (hy := mo_139) (h13 := rfl) ml_12_272 rfl, Rm_iinc (nL := 4) rfl dX12_newName_38, Rn_goto (t := 7) rfl dX12_newName_41, Rm_lload_n (k := 1) rfl dX12_newName_44, Rn_lreturn rfl dX12_newName_45, gs12_5 k218, gs12_39 k218, io12 k218, io12 k218, e1, y5, qI_s, qJ_s, qR_s, qV_s, qX_s, qN_s, qW_s, qF_s, qC_s, Option.bind_some, Option.bind_none, Nat.reduceAdd, Nat.reduceBEq, Nat.reduceEqDiff, lk_nil, lk_cons, lk_pt1, lk_pt2i, isJ_i, isJ_r, isJ_l, gI_i, gJ_i, gR_i, Bool.false_eq_true, if_true, if_false, ite_true, ite_false, ↓reduceIte, len4_0, len4_1, len4_2, len4_3, len4_4, Option.toList_some, Option.toList_none, List.cons_append, List.nil_append, va_rf_s, up_hp, ofI_j, jI_add, jI_sub, jI_mul, jI_neg, jL_add, jL_sub, jL_mul, jI_jL, jL_jI, nar_i, nar_zj, lt_t, lt_f, le_t, le_f, eq_t, eq_f, ez_t, ez_f, lz_t, lz_f, gz_t, gz_f, nz_t, nz_f, pz_t, pz_f, lgc_gt, lgc_lt, lgc_ge, lgc_le, lgc_eq, Lt_t, Lt_f, Le_t, Le_f, Eq_t, Eq_f, dv_j, not_true_eq_false, not_false_eq_true, Int.reduceEq, Int.reduceAdd, Int.reduceSub, Int.reduceMul, Int.reduceNeg, Ez_t, Ez_f, dv_L, false_and, true_and, and_true, and_false]
    exact r
/-- how asking for one that is there ends -/
def OnP (g : Int → Int) (k kind : Nat) (p : Ps) (B : BT) (v : Int) (M' : Me) : Prop := match onF g k kind p B with
  | .inl (j, q) => v = (j : Nat) ∧ PQ g k q.1 q.2 M' ∧ M' 218 39 = skp g k p.1
  | .inr x => v = 0 ∧ FL M' x.1 x.2 ∧ 1 ≤ x.1 ∧ x.1 < 100
set_option maxHeartbeats 8000000 in
theorem m_oneOf {B : BT} {kind : Nat} (hk4 : kind < 4) (hb : Byt g k) (hk : k ≤ 1600) (he : e ≤ k) (hP : PQ g k e nb M) (hWK : WK M) (hC : CNR M B) (d : Nat) : ∃ (v : Int) (M' : Me), X (d + 5) 155 [.ref 218, .int (jI (kind : Nat))] (n, z, hp H M) = some (some (.int (jI v)), (n, z, hp H M')) ∧ KN2 M M' ∧ OnP g k kind (e, nb) B v M' := by
  refine ex2_of fun G hG => ?_
  obtain ⟨v, M1, e1, K1, h1⟩ := m_name (n := n) (z := z) (H := H) hb hk he hP hWK d
  have hC1 : CNR M1 B := CNR_keep hC (K1.1 _ (by omega)) (K1.1 _ (by omega))
  rw [Xe_X12_oneOf]
  unfold OnP onF at hG
  unfold NmP at h1
  rcases hnm : nmF g k (e, nb) with ⟨L, q⟩ | x
  · rw [hnm] at h1
    obtain ⟨rfl, hPQ, y39⟩ := h1
    dsimp only at y39
    obtain ⟨-, -, -, wL, -⟩ := nmF_in (p := (e, nb)) he hnm
    have rL := pkF_6 wL.2 wL.1.2
    have y5 : M1 218 5 = 0 := hPQ.2.2.2.2.1
    have ff := m_fail0 (n := n) (z := z) (H := H) (M := M1) (a := 3) (p := skp g k e) y5 (d + 3)
    have yf : (st (st M1 218 5 3) 218 6 (skp g k e)) 218 5 = 3 := by rw [st_self, su_ne _ _ (by omega), st_self, su_self]
    have en := m_nameOf (n := n) (z := z) (H := H) hk4 hC1 wL.2 rL (d + 3)
    have hG' : ∀ v M', KN2 M M' → (match (match fnd (B.2.1 kind) L (cntK B.1 kind) with
        | none => (.inr (3, skp g k e) : (Nat × Ps) ⊕ Fz)
        | some j => .inl (j, q)) with
      | .inl (j, q) => v = (j : Nat) ∧ PQ g k q.1 q.2 M' ∧ M' 218 39 = skp g k e
      | .inr x => v = 0 ∧ FL M' x.1 x.2 ∧ 1 ≤ x.1 ∧ x.1 < 100) → G (some (some (.int (jI v)), (n, z, hp H M'))) := fun v M' a b => hG v M' ⟨a, by rw [hnm]; exact b⟩
    clear hG
    cases hf : fnd (B.2.1 kind) L (cntK B.1 kind) with
    | none =>
      rw [hf] at en hG'
      have r := hG' 0 (st (st M1 218 5 3) 218 6 (skp g k e)) (KN2_st (KN2_st K1 (by omega)) (by omega)) ⟨rfl, ⟨yf, by rw [st_self, su_self]⟩, by omega, by omega⟩
      rw [show fdV none = -1 from rfl] at en
      simp (disch := omega) only [Rm_aload_n (k := 0) rfl dX12_oneOf_0, Rm_inV0 (d := dX12_oneOf_1) (hy := mo_150) (h13 := rfl) ml_12_300 rfl, Rn_lstore_n (k := 2) (nL := 5) rfl rfl dX12_oneOf_4, Rm_aload_n (k := 0) rfl dX12_oneOf_5, Rm_iload_n (k := 1) rfl dX12_oneOf_6, Rm_lload_n (k := 2) rfl dX12_oneOf_7, Rm_inV2 (d := dX12_oneOf_8) (hy := mo_153) (h13 := rfl) ml_12_304 rfl, Rn_istore (nL := 5) rfl dX12_oneOf_11, Rm_aload_n (k := 0) rfl dX12_oneOf_13, Rm_getfield fl_12_242 dX12_oneOf_14, Rn_if_ne (t := 35) rfl dX12_oneOf_17, Rm_iload dX12_oneOf_20, Rn_iconst (v := jI (-1)) rfl dX12_oneOf_22, Rn_icmp_ne (t := 35) rfl dX12_oneOf_23, Rm_aload_n (k := 0) rfl dX12_oneOf_26, Rn_iconst (v := jI (3)) rfl dX12_oneOf_27, Rm_aload_n (k := 0) rfl dX12_oneOf_28, Rm_getfield fl_12_290 dX12_oneOf_29, Rm_inV2 (d := dX12_oneOf_32) (hy := mo_139) (h13 := rfl) ml_12_272 rfl, Rm_aload_n (k := 0) rfl dX12_oneOf_35, Rm_getfield fl_12_242 dX12_oneOf_36, Rn_if_ne (t := 47) rfl dX12_oneOf_39, Rm_iload dX12_oneOf_42, Rn_goto (t := 48) rfl dX12_oneOf_44, Rn_iconst (v := jI (0)) rfl dX12_oneOf_47, Rn_ireturn (ty := .int) rfl dX12_oneOf_48, gs12_5 k218, gs12_39 k218, io12 k218, io12 k218, e1, en, y5, y39, ff, yf, qI_s, qJ_s, qR_s, qV_s, qX_s, qN_s, qW_s, qF_s, qC_s, Option.bind_some, Option.bind_none, Nat.reduceAdd, Nat.reduceBEq, Nat.reduceEqDiff, lk_nil, lk_cons, lk_pt1, lk_pt2i, isJ_i, isJ_r, isJ_l, gI_i, gJ_i, gR_i, Bool.false_eq_true, if_true, if_false, ite_true, ite_false, ↓reduceIte, len4_0, len4_1, len4_2, len4_3, len4_4, Option.toList_some, Option.toList_none, List.cons_append, List.nil_append, va_rf_s, up_hp, ofI_j, jI_add, jI_sub, jI_mul, jI_neg, jL_add, jL_sub, jL_mul, jI_jL, jL_jI, nar_i, nar_zj, lt_t, lt_f, le_t, le_f, eq_t, eq_f, ez_t, ez_f, lz_t, lz_f, gz_t, gz_f, nz_t, nz_f, pz_t, pz_f, lgc_gt, lgc_lt, lgc_ge, lgc_le, lgc_eq, Lt_t, Lt_f, Le_t, Le_f, Eq_t, Eq_f, dv_j, not_true_eq_false, not_false_eq_true, Int.reduceEq, Int.reduceAdd, Int.reduceSub, Int.reduceMul, Int.reduceNeg, Ez_t, Ez_f, dv_L, false_and, true_and, and_true, and_false]
      exact r
    | some j =>
      rw [hf] at en hG'
      have hj := fnd_lt hf
      have h8 := (hC.1 kind hk4).2
      have r := hG' j M1 K1 ⟨rfl, hPQ, y39⟩
      rw [show fdV (some j) = (j : Int) from rfl] at en
      simp (disch := omega) only [Rm_aload_n (k := 0) rfl dX12_oneOf_0, Rm_inV0 (d := dX12_oneOf_1) (hy := mo_150) (h13 := rfl) ml_12_300 rfl, Rn_lstore_n (k := 2) (nL := 5) rfl rfl dX12_oneOf_4, Rm_aload_n (k := 0) rfl dX12_oneOf_5, Rm_iload_n (k := 1) rfl dX12_oneOf_6, Rm_lload_n (k := 2) rfl dX12_oneOf_7, Rm_inV2 (d := dX12_oneOf_8) (hy := mo_153) (h13 := rfl) ml_12_304 rfl, Rn_istore (nL := 5) rfl dX12_oneOf_11, Rm_aload_n (k := 0) rfl dX12_oneOf_13, Rm_getfield fl_12_242 dX12_oneOf_14, Rn_if_ne (t := 35) rfl dX12_oneOf_17, Rm_iload dX12_oneOf_20, Rn_iconst (v := jI (-1)) rfl dX12_oneOf_22, Rn_icmp_ne (t := 35) rfl dX12_oneOf_23, Rm_aload_n (k := 0) rfl dX12_oneOf_26, Rn_iconst (v := jI (3)) rfl dX12_oneOf_27, Rm_aload_n (k := 0) rfl dX12_oneOf_28, Rm_getfield fl_12_290 dX12_oneOf_29, Rm_inV2 (d := dX12_oneOf_32) (hy := mo_139) (h13 := rfl) ml_12_272 rfl, Rm_aload_n (k := 0) rfl dX12_oneOf_35, Rm_getfield fl_12_242 dX12_oneOf_36, Rn_if_ne (t := 47) rfl dX12_oneOf_39, Rm_iload dX12_oneOf_42, Rn_goto (t := 48) rfl dX12_oneOf_44, Rn_iconst (v := jI (0)) rfl dX12_oneOf_47, Rn_ireturn (ty := .int) rfl dX12_oneOf_48, gs12_5 k218, gs12_39 k218, io12 k218, io12 k218, e1, en, y5, qI_s, qJ_s, qR_s, qV_s, qX_s, qN_s, qW_s, qF_s, qC_s, Option.bind_some, Option.bind_none, Nat.reduceAdd, Nat.reduceBEq, Nat.reduceEqDiff, lk_nil, lk_cons, lk_pt1, lk_pt2i, isJ_i, isJ_r, isJ_l, gI_i, gJ_i, gR_i, Bool.false_eq_true, if_true, if_false, ite_true, ite_false, ↓reduceIte, len4_0, len4_1, len4_2, len4_3, len4_4, Option.toList_some, Option.toList_none, List.cons_append, List.nil_append, va_rf_s, up_hp, ofI_j, jI_add, jI_sub, jI_mul, jI_neg, jL_add, jL_sub, jL_mul, jI_jL, jL_jI, nar_i, nar_zj, lt_t, lt_f, le_t, le_f, eq_t, eq_f, ez_t, ez_f, lz_t, lz_f, gz_t, gz_f, nz_t, nz_f, pz_t, pz_f, lgc_gt, lgc_lt, lgc_ge, lgc_le, lgc_eq, Lt_t, Lt_f, Le_t, Le_f, Eq_t, Eq_f, dv_j, not_true_eq_false, not_false_eq_true, Int.reduceEq, Int.reduceAdd, Int.reduceSub, Int.reduceMul, Int.reduceNeg, Ez_t, Ez_f, dv_L, false_and, true_and, and_true, and_false]
      exact r
  · rw [hnm] at h1
    obtain ⟨rfl, hfl, x1, x2⟩ := h1
    have y5 : M1 218 5 = (x.1 : Nat) := hfl.1
    have en := m_nameOf (n := n) (z := z) (H := H) (L := []) hk4 hC1 (fun c hc => by cases hc) (by decide) (d + 3)
    have c8 := (hC.1 kind hk4).2
    rw [show ((pkF 0 [] : Nat) : Int) = 0 from rfl] at en
    have hv : -1 ≤ fdV (fnd (B.2.1 kind) [] (cntK B.1 kind)) ∧ fdV (fnd (B.2.1 kind) [] (cntK B.1 kind)) < 8 := by
      cases hf : fnd (B.2.1 kind) [] (cntK B.1 kind) with
      | none => decide
      | some j =>
        have := fnd_lt hf
        show -1 ≤ (j : Int) ∧ (j : Int) < 8
        omega
    generalize fdV (fnd (B.2.1 kind) [] (cntK B.1 kind)) = fv at *
    have r := hG 0 M1 ⟨K1, by rw [hnm]; exact ⟨rfl, hfl, x1, x2⟩⟩
    simp (disch := omega) only [Rm_aload_n (k := 0) rfl dX12_oneOf_0, Rm_inV0 (d := dX12_oneOf_1) (hy := mo_150) (h13 := rfl) ml_12_300 rfl, Rn_lstore_n (k := 2) (nL := 5) rfl rfl dX12_oneOf_4, Rm_aload_n (k := 0) rfl dX12_oneOf_5, Rm_iload_n (k := 1) rfl dX12_oneOf_6, Rm_lload_n (k := 2) rfl dX12_oneOf_7, Rm_inV2 (d := dX12_oneOf_8) (hy := mo_153) (h13 := rfl) ml_12_304 rfl, Rn_istore (nL := 5) rfl dX12_oneOf_11, Rm_aload_n (k := 0) rfl dX12_oneOf_13, Rm_getfield fl_12_242 dX12_oneOf_14, Rn_if_ne (t := 35) rfl dX12_oneOf_17, Rm_iload dX12_oneOf_20, Rn_iconst (v := jI (-1)) rfl dX12_oneOf_22, Rn_icmp_ne (t := 35) rfl dX12_oneOf_23, Rm_aload_n (k := 0) rfl dX12_oneOf_26, Rn_iconst (v := jI (3)) rfl dX12_oneOf_27, Rm_aload_n (k := 0) rfl dX12_oneOf_28, Rm_getfield fl_12_290 dX12_oneOf_29, Rm_inV2 (d := dX12_oneOf_32) (hy := mo_139) (h13 := rfl) ml_12_272 rfl, Rm_aload_n (k := 0) rfl dX12_oneOf_35, Rm_getfield fl_12_242 dX12_oneOf_36, Rn_if_ne (t := 47) rfl dX12_oneOf_39, Rm_iload dX12_oneOf_42, Rn_goto (t := 48) rfl dX12_oneOf_44, Rn_iconst (v := jI (0)) rfl dX12_oneOf_47, Rn_ireturn (ty := .int) rfl dX12_oneOf_48, gs12_5 k218, gs12_39 k218, io12 k218, io12 k218, e1, en, y5, qI_s, qJ_s, qR_s, qV_s, qX_s, qN_s, qW_s, qF_s, qC_s, Option.bind_some, Option.bind_none, Nat.reduceAdd, Nat.reduceBEq, Nat.reduceEqDiff, lk_nil, lk_cons, lk_pt1, lk_pt2i, isJ_i, isJ_r, isJ_l, gI_i, gJ_i, gR_i, Bool.false_eq_true, if_true, if_false, ite_true, ite_false, ↓reduceIte, len4_0, len4_1, len4_2, len4_3, len4_4, Option.toList_some, Option.toList_none, List.cons_append, List.nil_append, va_rf_s, up_hp, ofI_j, jI_add, jI_sub, jI_mul, jI_neg, jL_add, jL_sub, jL_mul, jI_jL, jL_jI, nar_i, nar_zj, lt_t, lt_f, le_t, le_f, eq_t, eq_f, ez_t, ez_f, lz_t, lz_f, gz_t, gz_f, nz_t, nz_f, pz_t, pz_f, lgc_gt, lgc_lt, lgc_ge, lgc_le, lgc_eq, Lt_t, Lt_f, Le_t, Le_f, Eq_t, Eq_f, dv_j, not_true_eq_false, not_false_eq_true, Int.reduceEq, Int.reduceAdd, Int.reduceSub, Int.reduceMul, Int.reduceNeg, Ez_t, Ez_f, dv_L, false_and, true_and, and_true, and_false]
    exact r
theorem m_oneOf1 {B : BT} {kind : Nat} (hk4 : kind < 4) (hC : CNR M B) (h : ¬ M 218 5 = 0) (h0 : 0 ≤ M 218 5) (h1 : M 218 5 < 100) (d : Nat) : X (d + 2) 155 [.ref 218, .int (jI (kind : Nat))] (n, z, hp H M) = some (some (.int (jI 0)), (n, z, hp H M)) := by
  have en := m_nameOf (n := n) (z := z) (H := H) (L := []) hk4 hC (fun c hc => by cases hc) (by decide) d
  have e1 := m_name1 (n := n) (z := z) (H := H) h h0 h1 d
  have c8 := (hC.1 kind hk4).2
  rw [show ((pkF 0 [] : Nat) : Int) = 0 from rfl] at en
  have hv : -1 ≤ fdV (fnd (B.2.1 kind) [] (cntK B.1 kind)) ∧ fdV (fnd (B.2.1 kind) [] (cntK B.1 kind)) < 8 := by
    cases hf : fnd (B.2.1 kind) [] (cntK B.1 kind) with
    | none => decide
    | some j =>
      have := fnd_lt hf
      show -1 ≤ (j : Int) ∧ (j : Int) < 8
      omega
  generalize fdV (fnd (B.2.1 kind) [] (cntK B.1 kind)) = fv at *
  rw [Xe_X12_oneOf]
  simp (disch := omega) only [Rm_aload_n (k := 0) rfl dX12_oneOf_0, Rm_inV0 (d := dX12_oneOf_1) (hy := mo_150) (h13 := rfl) ml_12_300 rfl, Rn_lstore_n (k := 2) (nL := 5) rfl rfl dX12_oneOf_4, Rm_aload_n (k := 0) rfl dX12_oneOf_5, Rm_iload_n (k := 1) rfl dX12_oneOf_6, Rm_lload_n (k := 2) rfl dX12_oneOf_7, Rm_inV2 (d := dX12_oneOf_8) (hy := mo_153) (h13 := rfl) ml_12_304 rfl, Rn_istore (nL := 5) rfl dX12_oneOf_11, Rm_aload_n (k := 0) rfl dX12_oneOf_13, Rm_getfield fl_12_242 dX12_oneOf_14, Rn_if_ne (t := 35) rfl dX12_oneOf_17, Rm_iload dX12_oneOf_20, Rn_iconst (v := jI (-1)) rfl dX12_oneOf_22, Rn_icmp_ne (t := 35) rfl dX12_oneOf_23, Rm_aload_n (k := 0) rfl dX12_oneOf_26, Rn_iconst (v := jI (3)) rfl dX12_oneOf_27, Rm_aload_n (k := 0) rfl dX12_oneOf_28, Rm_getfield fl_12_290 dX12_oneOf_29, Rm_inV2 (d := dX12_oneOf_32) (hy := mo_139) (h13 := rfl) ml_12_272 rfl, Rm_aload_n (k := 0) rfl dX12_oneOf_35, Rm_getfield fl_12_242 dX12_oneOf_36, Rn_if_ne (t := 47) rfl dX12_oneOf_39, Rm_iload dX12_oneOf_42, Rn_goto (t := 48) rfl dX12_oneOf_44, Rn_iconst (v := jI (0)) rfl dX12_oneOf_47, Rn_ireturn (ty := .int) rfl dX12_oneOf_48, gs12_5 k218, gs12_39 k218, io12 k218, io12 k218, e1, en, qI_s, qJ_s, qR_s, qV_s, qX_s, qN_s, qW_s, qF_s, qC_s, Option.bind_some, Option.bind_none, Nat.reduceAdd, Nat.reduceBEq, Nat.reduceEqDiff, lk_nil, lk_cons, lk_pt1, lk_pt2i, isJ_i, isJ_r, isJ_l, gI_i, gJ_i, gR_i, Bool.false_eq_true, if_true, if_false, ite_true, ite_false, ↓reduceIte, len4_0, len4_1, len4_2, len4_3, len4_4, Option.toList_some, Option.toList_none, List.cons_append, List.nil_append, va_rf_s, up_hp, ofI_j, jI_add, jI_sub, jI_mul, jI_neg, jL_add, jL_sub, jL_mul, jI_jL, jL_jI, nar_i, nar_zj, lt_t, lt_f, le_t, le_f, eq_t, eq_f, ez_t, ez_f, lz_t, lz_f, gz_t, gz_f, nz_t, nz_f, pz_t, pz_f, lgc_gt, lgc_lt, lgc_ge, lgc_le, lgc_eq, Lt_t, Lt_f, Le_t, Le_f, Eq_t, Eq_f, dv_j, not_true_eq_false, not_false_eq_true, Int.reduceEq, Int.reduceAdd, Int.reduceSub, Int.reduceMul, Int.reduceNeg, Ez_t, Ez_f, dv_L, false_and, true_and, and_true, and_false]
/-- a name put down -/
theorem m_isNamed {B : BT} {kind : Nat} {v : Int} (hk4 : kind < 4) (hC : CNR M B) (hc : cntK B.1 kind < 8) (h5 : M 218 5 = 0) (d : Nat) : X (d + 1) 156 [.ref 218, .int (jI (kind : Nat)), .long (jL v)] (n, z, hp H M) = some (none, (n, z, hp H (st (st M 251 (8 * (kind : Nat) + (cntK B.1 kind : Nat)) v) 250 (kind : Nat) ((cntK B.1 kind : Nat) + 1)))) := by
  obtain ⟨y1, y8⟩ := hC.1 kind hk4
  have f1 : ∀ i v, st M 251 i v 250 = M 250 := fun i v => st_ne _ _ _ (by omega)
  rw [Xe_X12_isNamed]
  simp (disch := omega) only [Rm_aload_n (k := 0) rfl dX12_isNamed_0, Rm_getfield fl_12_242 dX12_isNamed_1, Rn_if_eq (t := 8) rfl dX12_isNamed_4, Rn_return rfl dX12_isNamed_7, Rm_aload_n (k := 0) rfl dX12_isNamed_8, Rm_getfield fl_12_111 dX12_isNamed_9, Rn_bipush (v := jI (8)) rfl dX12_isNamed_12, Rm_iload_n (k := 1) rfl dX12_isNamed_14, Rn_imul dX12_isNamed_15, Rm_aload_n (k := 0) rfl dX12_isNamed_16, Rm_getfield fl_12_108 dX12_isNamed_17, Rm_iload_n (k := 1) rfl dX12_isNamed_20, Rm_iaload dX12_isNamed_21, Rn_iadd dX12_isNamed_22, Rm_lload_n (k := 2) rfl dX12_isNamed_23, Rm_lastore dX12_isNamed_24, Rm_aload_n (k := 0) rfl dX12_isNamed_25, Rm_getfield fl_12_108 dX12_isNamed_26, Rm_iload_n (k := 1) rfl dX12_isNamed_29, Rn_dup2 dX12_isNamed_30, Rm_iaload dX12_isNamed_31, Rn_iconst (v := jI (1)) rfl dX12_isNamed_32, Rn_iadd dX12_isNamed_33, Rm_iastore dX12_isNamed_34, Rn_return rfl dX12_isNamed_35, gs12_5 k218, gs12_40 k218, rdM k250 l250, wrM k250 l250, alM k250 l250, gs12_41 k218, rdL k251 l251, wrL k251 l251, Rn_dup2 dX12_isNamed_30, h5, y1, f1, qI_s, qJ_s, qR_s, qV_s, qX_s, qN_s, qW_s, qF_s, qC_s, Option.bind_some, Option.bind_none, Nat.reduceAdd, Nat.reduceBEq, Nat.reduceEqDiff, lk_nil, lk_cons, lk_pt1, lk_pt2i, isJ_i, isJ_r, isJ_l, gI_i, gJ_i, gR_i, Bool.false_eq_true, if_true, if_false, ite_true, ite_false, ↓reduceIte, len4_0, len4_1, len4_2, len4_3, len4_4, Option.toList_some, Option.toList_none, List.cons_append, List.nil_append, va_rf_s, up_hp, ofI_j, jI_add, jI_sub, jI_mul, jI_neg, jL_add, jL_sub, jL_mul, jI_jL, jL_jI, nar_i, nar_zj, lt_t, lt_f, le_t, le_f, eq_t, eq_f, ez_t, ez_f, lz_t, lz_f, gz_t, gz_f, nz_t, nz_f, pz_t, pz_f, lgc_gt, lgc_lt, lgc_ge, lgc_le, lgc_eq, Lt_t, Lt_f, Le_t, Le_f, Eq_t, Eq_f, dv_j, not_true_eq_false, not_false_eq_true, Int.reduceEq, Int.reduceAdd, Int.reduceSub, Int.reduceMul, Int.reduceNeg, Ez_t, Ez_f, dv_L, false_and, true_and, and_true, and_false]
theorem m_isNamed1 {kind v : Int} (h : ¬ M 218 5 = 0) (h0 : 0 ≤ M 218 5) (h1 : M 218 5 < 100) (d : Nat) : X (d + 1) 156 [.ref 218, .int (jI kind), .long (jL v)] (n, z, hp H M) = some (none, (n, z, hp H M)) := by
  rw [Xe_X12_isNamed]
  simp (disch := omega) only [Rm_aload_n (k := 0) rfl dX12_isNamed_0, Rm_getfield fl_12_242 dX12_isNamed_1, Rn_if_eq (t := 8) rfl dX12_isNamed_4, Rn_return rfl dX12_isNamed_7, gs12_5 k218, qI_s, qJ_s, qR_s, qV_s, qX_s, qN_s, qW_s, qF_s, qC_s, Option.bind_some, Option.bind_none, Nat.reduceAdd, Nat.reduceBEq, Nat.reduceEqDiff, lk_nil, lk_cons, lk_pt1, lk_pt2i, isJ_i, isJ_r, isJ_l, gI_i, gJ_i, gR_i, Bool.false_eq_true, if_true, if_false, ite_true, ite_false, ↓reduceIte, len4_0, len4_1, len4_2, len4_3, len4_4, Option.toList_some, Option.toList_none, List.cons_append, List.nil_append, va_rf_s, up_hp, ofI_j, jI_add, jI_sub, jI_mul, jI_neg, jL_add, jL_sub, jL_mul, jI_jL, jL_jI, nar_i, nar_zj, lt_t, lt_f, le_t, le_f, eq_t, eq_f, ez_t, ez_f, lz_t, lz_f, gz_t, gz_f, nz_t, nz_f, pz_t, pz_f, lgc_gt, lgc_lt, lgc_ge, lgc_le, lgc_eq, Lt_t, Lt_f, Le_t, Le_f, Eq_t, Eq_f, dv_j, not_true_eq_false, not_false_eq_true, Int.reduceEq, Int.reduceAdd, Int.reduceSub, Int.reduceMul, Int.reduceNeg, Ez_t, Ez_f, dv_L, false_and, true_and, and_true, and_false]
theorem CNR_adN {M' : Me} {kind : Nat} {B : BT} {L : List Nat} (hk4 : kind < 4) (h : CNR M B) (hL : wfL L) (hc : cntK B.1 kind < mxK kind) (h1 : M' 250 = su (M 250) (kind : Nat) ((cntK B.1 kind : Nat) + 1)) (h2 : M' 251 = su (M 251) (8 * (kind : Nat) + (cntK B.1 kind : Nat)) (pkF 0 L : Nat)) : CNR M' (adN kind L B) := by
  obtain ⟨a1, a2, a3⟩ := h
  have m8 := mxK_le kind
  refine ⟨fun kind' hk' => ?_, ?_, fun kind' j hk' hj => ?_⟩
  · show M' 250 (kind' : Nat) = cntK (incK kind B.1) kind' ∧ cntK (incK kind B.1) kind' ≤ 8
    rw [cntK_inc hk4 hk', h1]
    by_cases q : kind' = kind
    · subst q
      rw [if_pos rfl, su_self]
      omega
    · rw [if_neg q, su_ne _ _ (by omega)]
      exact a1 kind' hk'
  · show M' 250 4 = ne B.1
    rw [h1, su_ne _ _ (by omega)]
    exact a2
  · have hj' : j < cntK (incK kind B.1) kind' := hj
    show wfL (if kind' = kind ∧ j = cntK B.1 kind then L else B.2.1 kind' j) ∧ M' 251 (8 * kind' + j) = pkF 0 (if kind' = kind ∧ j = cntK B.1 kind then L else B.2.1 kind' j)
    rw [cntK_inc hk4 hk'] at hj'
    rw [h2]
    by_cases q : kind' = kind ∧ j = cntK B.1 kind
    · rw [if_pos q, q.1, q.2, su_self]
      exact ⟨hL, rfl⟩
    · have hj2 : j < cntK B.1 kind' := by
        by_cases q1 : kind' = kind
        · rw [if_pos q1] at hj'
          rw [q1]
          have : ¬ j = cntK B.1 kind := fun h => q ⟨q1, h⟩
          omega
        · rw [if_neg q1] at hj'
          exact hj'
      have b8 := (a1 kind' hk').2
      rw [if_neg q, su_ne]
      · exact a3 kind' j hk' hj2
      · intro he
        exact q ⟨by omega, by omega⟩
end

/-! a whim of the reference -/
section
variable {n z t : Nat} {T : TT} {s : Ss} {H : Nat → AC} {M : Me} (d : Nat)
theorem m_least (h : Hp) {a b : Int} (a0 : -2147483648 ≤ a) (a1 : a < 2147483648) (b0 : -2147483648 ≤ b) (b1 : b < 2147483648) : X (d + 1) 213 [.int (jI a), .int (jI b)] h = some (some (.int (jI (min a b))), h) := by
  rw [Xe_X12_least]
  by_cases q : a < b
  · rw [show min a b = a by omega]
    simp (disch := omega) only [Rm_iload_n (k := 0) rfl dX12_least_0, Rm_iload_n (k := 1) rfl dX12_least_1, Rn_icmp_ge (t := 9) rfl dX12_least_2, Rm_iload_n (k := 0) rfl dX12_least_5, Rn_goto (t := 10) rfl dX12_least_6, Rm_iload_n (k := 1) rfl dX12_least_9, Rn_ireturn (ty := .int) rfl dX12_least_10, qI_s, qJ_s, qR_s, qV_s, qX_s, qN_s, qW_s, qF_s, qC_s, Option.bind_some, Option.bind_none, Nat.reduceAdd, Nat.reduceBEq, Nat.reduceEqDiff, lk_nil, lk_cons, lk_pt1, lk_pt2i, isJ_i, isJ_r, isJ_l, gI_i, gJ_i, gR_i, Bool.false_eq_true, if_true, if_false, ite_true, ite_false, ↓reduceIte, len4_0, len4_1, len4_2, len4_3, len4_4, Option.toList_some, Option.toList_none, List.cons_append, List.nil_append, va_rf_s, up_hp, ofI_j, jI_add, jI_sub, jI_mul, jI_neg, jL_add, jL_sub, jL_mul, jI_jL, jL_jI, nar_i, nar_zj, lt_t, lt_f, le_t, le_f, eq_t, eq_f, ez_t, ez_f, lz_t, lz_f, gz_t, gz_f, nz_t, nz_f, pz_t, pz_f, lgc_gt, lgc_lt, lgc_ge, lgc_le, lgc_eq, Lt_t, Lt_f, Le_t, Le_f, Eq_t, Eq_f, dv_j, not_true_eq_false, not_false_eq_true, Int.reduceEq, Int.reduceAdd, Int.reduceSub, Int.reduceMul, Int.reduceNeg, Ez_t, Ez_f, dv_L, false_and, true_and, and_true, and_false]
  · rw [show min a b = b by omega]
    simp (disch := omega) only [Rm_iload_n (k := 0) rfl dX12_least_0, Rm_iload_n (k := 1) rfl dX12_least_1, Rn_icmp_ge (t := 9) rfl dX12_least_2, Rm_iload_n (k := 0) rfl dX12_least_5, Rn_goto (t := 10) rfl dX12_least_6, Rm_iload_n (k := 1) rfl dX12_least_9, Rn_ireturn (ty := .int) rfl dX12_least_10, qI_s, qJ_s, qR_s, qV_s, qX_s, qN_s, qW_s, qF_s, qC_s, Option.bind_some, Option.bind_none, Nat.reduceAdd, Nat.reduceBEq, Nat.reduceEqDiff, lk_nil, lk_cons, lk_pt1, lk_pt2i, isJ_i, isJ_r, isJ_l, gI_i, gJ_i, gR_i, Bool.false_eq_true, if_true, if_false, ite_true, ite_false, ↓reduceIte, len4_0, len4_1, len4_2, len4_3, len4_4, Option.toList_some, Option.toList_none, List.cons_append, List.nil_append, va_rf_s, up_hp, ofI_j, jI_add, jI_sub, jI_mul, jI_neg, jL_add, jL_sub, jL_mul, jI_jL, jL_jI, nar_i, nar_zj, lt_t, lt_f, le_t, le_f, eq_t, eq_f, ez_t, ez_f, lz_t, lz_f, gz_t, gz_f, nz_t, nz_f, pz_t, pz_f, lgc_gt, lgc_lt, lgc_ge, lgc_le, lgc_eq, Lt_t, Lt_f, Le_t, Le_f, Eq_t, Eq_f, dv_j, not_true_eq_false, not_false_eq_true, Int.reduceEq, Int.reduceAdd, Int.reduceSub, Int.reduceMul, Int.reduceNeg, Ez_t, Ez_f, dv_L, false_and, true_and, and_true, and_false]
set_option maxHeartbeats 4000000 in
theorem r_whim (hB : RB M T s) (wT : wfT T) (wS : wfS T s) (hp1 : 1 ≤ np T) (hm1 : 1 ≤ nm T) (x0 : 0 ≤ M 218 65) (x1 : M 218 65 < 2147483648) : X (d + 3) 228 [.ref 218] (n, z, hp H M) = some (none, (n, z, hp H (st (st M 218 65 (whX (M 218 65))) 259 (1 + 8 * whP T (M 218 65) + whM T (M 218 65)) (whV T s (M 218 65))))) := by
  obtain ⟨hT, hS⟩ := id hB
  obtain ⟨⟨c5, c6, c7, c8, c9⟩, clv, cml, ⟨cb, cev, cwh⟩, r6, r7, rd⟩ := id hT
  obtain ⟨wm, wp, wl, we, wd, wlv, wme, wde, w6, w7, wbk, wev, wwh⟩ := id wT
  have wh := wS.1
  have e0 := hS.1
  generalize hx : M 218 65 = x at *
  obtain ⟨⟨p0, p1⟩, ⟨m0, m1⟩, r0, r1⟩ := wh_rng wT wS hp1 hm1 x
  have d1 := r_draw (d + 1) (n := n) (z := z) (H := H) (M := M) (m := np T) (by omega) (by omega) (by omega) (by omega)
  have d2 := r_draw (d + 1) (n := n) (z := z) (H := H) (M := st M 218 65 (drF x)) (m := nm T) (by omega) (by omega) (by rw [st_self, su_self]; exact (drF_rng x).1) (by rw [st_self, su_self]; exact (drF_rng x).2)
  have d3 := r_draw (d + 1) (n := n) (z := z) (H := H) (M := st (st M 218 65 (drF x)) 218 65 (drF (drF x))) (m := 3) (by omega) (by omega) (by rw [st_self, su_self]; exact (drF_rng _).1) (by rw [st_self, su_self]; exact (drF_rng _).2)
  have ess : ∀ a b, st (st M 218 65 a) 218 65 b = st M 218 65 b := fun a b => by
    rw [st_c M 218 65 a, st_setc, st_c M 218 65 b]
    congr 1
    funext i
    simp only [su_app]
    split <;> rfl
  rw [hx] at d1
  rw [st_self, su_self, ess] at d2
  rw [ess, st_self, su_self, ess] at d3
  have rn := wS.2.1 (whP T x) (whM T x) p0 p1 m0 m1
  have e1 : dvF x (np T) = whP T x := rfl
  have e2 : dvF (drF x) (nm T) = whM T x := rfl
  have e3 : whV T s x = asF (sn s (whP T x) (whM T x) + (dvF (drF (drF x)) 3 - 1) * twh T) := rfl
  rw [e1] at d1
  rw [e2] at d2
  have ep : ∀ M0 : Me, M0 250 = M 250 → X (d + 2) 172 [.ref 218] (n, z, hp H M0) = some (some (.int (jI (np T))), (n, z, hp H M0)) := fun M0 h => by
    have := m_peopleMany (d + 1) (n := n) (z := z) (H := H) (M := M0)
    rw [h, c6] at this
    exact this
  have em : ∀ M0 : Me, M0 250 = M 250 → X (d + 2) 171 [.ref 218] (n, z, hp H M0) = some (some (.int (jI (nm T))), (n, z, hp H M0)) := fun M0 h => by
    have := m_moodMany (d + 1) (n := n) (z := z) (H := H) (M := M0)
    rw [h, c5] at this
    exact this
  have y := m_natureOf (d + 1) (n := n) (z := z) (H := H) (M := st M 218 65 (drF (drF x))) p0 (show whP T x < 8 by omega) m0 (show whM T x < 4 by omega)
  rw [st_ne _ _ _ (by omega), (hS.2.1 (whP T x) (whM T x) p0 p1 m0 m1).1] at y
  have f1 := ep M rfl
  have f2 := em (st M 218 65 (drF x)) (st_ne _ _ _ (by omega))
  have el := fun h => m_least (d + 1) h (a := sn s (whP T x) (whM T x) + (dvF (drF (drF x)) 3 - 1) * twh T) (b := 99) (by omega) (by omega) (by omega) (by omega)
  rw [Xe_X12_whim, e3]
  by_cases q : sn s (whP T x) (whM T x) + (dvF (drF (drF x)) 3 - 1) * twh T < 0
  · rw [show asF (sn s (whP T x) (whM T x) + (dvF (drF (drF x)) 3 - 1) * twh T) = 0 by unfold asF; omega]
    simp (disch := omega) only [Rm_aload_n (k := 0) rfl dX12_whim_0, Rm_aload_n (k := 0) rfl dX12_whim_1, Rm_inV0 (d := dX12_whim_2) (hy := mo_172) (h13 := rfl) ml_12_407 rfl, Rm_inV1 (d := dX12_whim_5) (hy := mo_227) (h13 := rfl) ml_12_577 rfl, Rn_istore_n (k := 1) (nL := 4) rfl rfl dX12_whim_8, Rm_aload_n (k := 0) rfl dX12_whim_9, Rm_aload_n (k := 0) rfl dX12_whim_10, Rm_inV0 (d := dX12_whim_11) (hy := mo_171) (h13 := rfl) ml_12_404 rfl, Rm_inV1 (d := dX12_whim_14) (hy := mo_227) (h13 := rfl) ml_12_577 rfl, Rn_istore_n (k := 2) (nL := 4) rfl rfl dX12_whim_17, Rm_aload_n (k := 0) rfl dX12_whim_18, Rm_iload_n (k := 1) rfl dX12_whim_19, Rm_iload_n (k := 2) rfl dX12_whim_20, Rm_inV2 (d := dX12_whim_21) (hy := mo_179) (h13 := rfl) ml_12_434 rfl, Rm_aload_n (k := 0) rfl dX12_whim_24, Rn_iconst (v := jI (3)) rfl dX12_whim_25, Rm_inV1 (d := dX12_whim_26) (hy := mo_227) (h13 := rfl) ml_12_577 rfl, Rn_iconst (v := jI (1)) rfl dX12_whim_29, Rn_isub dX12_whim_30, Rm_aload_n (k := 0) rfl dX12_whim_31, Rm_getfield fl_12_124 dX12_whim_32, Rn_iconst (v := jI (5)) rfl dX12_whim_35, Rm_iaload dX12_whim_36, Rn_imul dX12_whim_37, Rn_iadd dX12_whim_38, Rn_istore_n (k := 3) (nL := 4) rfl rfl dX12_whim_39, Rm_aload_n (k := 0) rfl dX12_whim_40, Rm_getfield fl_12_136 dX12_whim_41, Rn_iconst (v := jI (1)) rfl dX12_whim_44, Rn_bipush (v := jI (8)) rfl dX12_whim_45, Rm_iload_n (k := 1) rfl dX12_whim_47, Rn_imul dX12_whim_48, Rn_iadd dX12_whim_49, Rm_iload_n (k := 2) rfl dX12_whim_50, Rn_iadd dX12_whim_51, Rm_iload_n (k := 3) rfl dX12_whim_52, Rn_if_ge (t := 60) rfl dX12_whim_53, Rn_iconst (v := jI (0)) rfl dX12_whim_56, Rn_goto (t := 66) rfl dX12_whim_57, Rm_iload_n (k := 3) rfl dX12_whim_60, Rn_bipush (v := jI (99)) rfl dX12_whim_61, Rm_inS2 (d := dX12_whim_63) ml_12_580 rfl, Rm_iastore dX12_whim_66, Rn_return rfl dX12_whim_67, gs12_45 k218, rdM k255 l255, wrM k255 l255, alM k255 l255, gs12_52 k218, rdM k259 l259, wrM k259 l259, alM k259 l259, io12 k218, io12 k218, cwh, f1, f2, d1, d2, d3, st_ne, y, qI_s, qJ_s, qR_s, qV_s, qX_s, qN_s, qW_s, qF_s, qC_s, Option.bind_some, Option.bind_none, Nat.reduceAdd, Nat.reduceBEq, Nat.reduceEqDiff, lk_nil, lk_cons, lk_pt1, lk_pt2i, isJ_i, isJ_r, isJ_l, gI_i, gJ_i, gR_i, Bool.false_eq_true, if_true, if_false, ite_true, ite_false, ↓reduceIte, len4_0, len4_1, len4_2, len4_3, len4_4, Option.toList_some, Option.toList_none, List.cons_append, List.nil_append, va_rf_s, up_hp, ofI_j, jI_add, jI_sub, jI_mul, jI_neg, jL_add, jL_sub, jL_mul, jI_jL, jL_jI, nar_i, nar_zj, lt_t, lt_f, le_t, le_f, eq_t, eq_f, ez_t, ez_f, lz_t, lz_f, gz_t, gz_f, nz_t, nz_f, pz_t, pz_f, lgc_gt, lgc_lt, lgc_ge, lgc_le, lgc_eq, Lt_t, Lt_f, Le_t, Le_f, Eq_t, Eq_f, dv_j, not_true_eq_false, not_false_eq_true, Int.reduceEq, Int.reduceAdd, Int.reduceSub, Int.reduceMul, Int.reduceNeg, Ez_t, Ez_f, dv_L, false_and, true_and, and_true, and_false]
    rfl
  · rw [show asF (sn s (whP T x) (whM T x) + (dvF (drF (drF x)) 3 - 1) * twh T) = min (sn s (whP T x) (whM T x) + (dvF (drF (drF x)) 3 - 1) * twh T) 99 by unfold asF; omega]
    simp (disch := omega) only [Rm_aload_n (k := 0) rfl dX12_whim_0, Rm_aload_n (k := 0) rfl dX12_whim_1, Rm_inV0 (d := dX12_whim_2) (hy := mo_172) (h13 := rfl) ml_12_407 rfl, Rm_inV1 (d := dX12_whim_5) (hy := mo_227) (h13 := rfl) ml_12_577 rfl, Rn_istore_n (k := 1) (nL := 4) rfl rfl dX12_whim_8, Rm_aload_n (k := 0) rfl dX12_whim_9, Rm_aload_n (k := 0) rfl dX12_whim_10, Rm_inV0 (d := dX12_whim_11) (hy := mo_171) (h13 := rfl) ml_12_404 rfl, Rm_inV1 (d := dX12_whim_14) (hy := mo_227) (h13 := rfl) ml_12_577 rfl, Rn_istore_n (k := 2) (nL := 4) rfl rfl dX12_whim_17, Rm_aload_n (k := 0) rfl dX12_whim_18, Rm_iload_n (k := 1) rfl dX12_whim_19, Rm_iload_n (k := 2) rfl dX12_whim_20, Rm_inV2 (d := dX12_whim_21) (hy := mo_179) (h13 := rfl) ml_12_434 rfl, Rm_aload_n (k := 0) rfl dX12_whim_24, Rn_iconst (v := jI (3)) rfl dX12_whim_25, Rm_inV1 (d := dX12_whim_26) (hy := mo_227) (h13 := rfl) ml_12_577 rfl, Rn_iconst (v := jI (1)) rfl dX12_whim_29, Rn_isub dX12_whim_30, Rm_aload_n (k := 0) rfl dX12_whim_31, Rm_getfield fl_12_124 dX12_whim_32, Rn_iconst (v := jI (5)) rfl dX12_whim_35, Rm_iaload dX12_whim_36, Rn_imul dX12_whim_37, Rn_iadd dX12_whim_38, Rn_istore_n (k := 3) (nL := 4) rfl rfl dX12_whim_39, Rm_aload_n (k := 0) rfl dX12_whim_40, Rm_getfield fl_12_136 dX12_whim_41, Rn_iconst (v := jI (1)) rfl dX12_whim_44, Rn_bipush (v := jI (8)) rfl dX12_whim_45, Rm_iload_n (k := 1) rfl dX12_whim_47, Rn_imul dX12_whim_48, Rn_iadd dX12_whim_49, Rm_iload_n (k := 2) rfl dX12_whim_50, Rn_iadd dX12_whim_51, Rm_iload_n (k := 3) rfl dX12_whim_52, Rn_if_ge (t := 60) rfl dX12_whim_53, Rn_iconst (v := jI (0)) rfl dX12_whim_56, Rn_goto (t := 66) rfl dX12_whim_57, Rm_iload_n (k := 3) rfl dX12_whim_60, Rn_bipush (v := jI (99)) rfl dX12_whim_61, Rm_inS2 (d := dX12_whim_63) ml_12_580 rfl, Rm_iastore dX12_whim_66, Rn_return rfl dX12_whim_67, gs12_45 k218, rdM k255 l255, wrM k255 l255, alM k255 l255, gs12_52 k218, rdM k259 l259, wrM k259 l259, alM k259 l259, io12 k218, io12 k218, cwh, f1, f2, d1, d2, d3, st_ne, y, el, qI_s, qJ_s, qR_s, qV_s, qX_s, qN_s, qW_s, qF_s, qC_s, Option.bind_some, Option.bind_none, Nat.reduceAdd, Nat.reduceBEq, Nat.reduceEqDiff, lk_nil, lk_cons, lk_pt1, lk_pt2i, isJ_i, isJ_r, isJ_l, gI_i, gJ_i, gR_i, Bool.false_eq_true, if_true, if_false, ite_true, ite_false, ↓reduceIte, len4_0, len4_1, len4_2, len4_3, len4_4, Option.toList_some, Option.toList_none, List.cons_append, List.nil_append, va_rf_s, up_hp, ofI_j, jI_add, jI_sub, jI_mul, jI_neg, jL_add, jL_sub, jL_mul, jI_jL, jL_jI, nar_i, nar_zj, lt_t, lt_f, le_t, le_f, eq_t, eq_f, ez_t, ez_f, lz_t, lz_f, gz_t, gz_f, nz_t, nz_f, pz_t, pz_f, lgc_gt, lgc_lt, lgc_ge, lgc_le, lgc_eq, Lt_t, Lt_f, Le_t, Le_f, Eq_t, Eq_f, dv_j, not_true_eq_false, not_false_eq_true, Int.reduceEq, Int.reduceAdd, Int.reduceSub, Int.reduceMul, Int.reduceNeg, Ez_t, Ez_f, dv_L, false_and, true_and, and_true, and_false]
    rfl
end

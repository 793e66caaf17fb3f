/-! acts: undo of the class -/
section
variable {n z t : Nat} {T : TT} {s x : Ss} {hs : List Ss} {H : Nat → AC} {M : Me}
theorem c_undo_f (h : M 55 2 = 0) (d : Nat) : X (d + 6) 112 [.ref 8] (n, z, hp H M) = some (some (.int (jI 0)), (n, z, hp H (st M 172 3 (M 172 3 + 1)))) := by
  have e1 := s_takeBack0 (n := n) (z := z) (H := H) (M := M) (b := 44) h (d + 1)
  have er := s_refuse (d + 4) (n := n) (z := z) (H := H) (M := M) (k := 3) (by omega) (by omega)
  rw [Xe_X11_undo]
  simp (disch := omega) only [Rm_aload_n (k := 0) rfl dX11_undo_0, Rm_getfield fl_11_82 dX11_undo_1, Rm_aload_n (k := 0) rfl dX11_undo_4, Rm_getfield fl_11_68 dX11_undo_5, Rm_inV1 (d := dX11_undo_8) (hy := mo_25) (h13 := rfl) ml_11_234 rfl, Rn_if_ne (t := 22) rfl dX11_undo_11, Rm_aload_n (k := 0) rfl dX11_undo_14, Rn_iconst (v := jI (3)) rfl dX11_undo_15, Rm_inV1 (d := dX11_undo_16) (hy := mo_122) (h13 := rfl) ml_11_107 rfl, Rn_pop_int dX11_undo_19, Rn_pop_ref dX11_undo_19, Rn_iconst (v := jI (0)) rfl dX11_undo_20, Rn_ireturn (ty := .boolean) rfl dX11_undo_21, Rn_iconst (v := jI (1)) rfl dX11_undo_22, Rn_ireturn (ty := .boolean) rfl dX11_undo_23, gs11_9 k8, gs11_12 k8, io11 k8, io11 k8, io3 k55, e1, er, qI_s, qJ_s, qR_s, qV_s, qX_s, qN_s, qW_s, qF_s, qC_s, Option.bind_some, Option.bind_none, Nat.reduceAdd, Nat.reduceBEq, Nat.reduceEqDiff, lk_nil, lk_cons, lk_pt1, lk_pt2i, isJ_i, isJ_r, isJ_l, gI_i, gJ_i, gR_i, Bool.false_eq_true, if_true, if_false, ite_true, ite_false, ↓reduceIte, len4_0, len4_1, len4_2, len4_3, len4_4, Option.toList_some, Option.toList_none, List.cons_append, List.nil_append, va_rf_s, up_hp, ofI_j, jI_add, jI_sub, jI_mul, jI_neg, jL_add, jL_sub, jL_mul, jI_jL, jL_jI, nar_i, nar_zj, lt_t, lt_f, le_t, le_f, eq_t, eq_f, ez_t, ez_f, lz_t, lz_f, gz_t, gz_f, nz_t, nz_f, pz_t, pz_f, lgc_gt, lgc_lt, lgc_ge, lgc_le, lgc_eq, Lt_t, Lt_f, Le_t, Le_f, Eq_t, Eq_f, dv_j, not_true_eq_false, not_false_eq_true, Int.reduceEq, Int.reduceAdd, Int.reduceSub, Int.reduceMul, Int.reduceNeg, Ez_t, Ez_f, dv_L, false_and, true_and, and_true, and_false]
set_option maxHeartbeats 4000000 in
theorem c_undo_t (hB : CB M t T s) (hC : HC T M (x :: hs)) (wT : wfT T) (d : Nat) : ∃ M' : Me, X (d + 6) 112 [.ref 8] (n, z, hp H M) = some (some (.int (jI 1)), (n, z, hp H M')) ∧ SR T M' 44 x ∧ HC T M' hs ∧ ∀ b, ¬ ((44 ≤ b ∧ b ≤ 48) ∨ b = 55) → M' b = M b := by
  obtain ⟨⟨h1, h2⟩, ⟨n0, n1⟩, h3⟩ := hC
  simp only [List.length_cons, Int.natCast_add, Int.cast_ofNat_Int] at h1 h2
  have e1 := s_takeBack (n := n) (z := z) (H := H) (M := M) (b := 44) k44 n0 n1 (by omega) (by omega) (by omega) (d + 1)
  have hk := k_ring (i := ((M 55 1 + 20 - 1) % 20).toNat) (by omega)
  have f : ∀ b, ¬ (b = 55) → st (st M 55 1 ((M 55 1 + 20 - 1) % 20)) 55 2 (M 55 2 - 1) b = M b := fun b hb => by rw [st_ne _ _ _ hb, st_ne _ _ _ hb]
  have y := h3 0 x rfl
  rw [show ((M 55 1 + 19 - ((0 : Nat) : Int)) % 20).toNat = ((M 55 1 + 20 - 1) % 20).toNat by omega] at y
  have y2 : SR T (st (st M 55 1 ((M 55 1 + 20 - 1) % 20)) 55 2 (M 55 2 - 1)) (57 + 5 * ((M 55 1 + 20 - 1) % 20).toNat) x := SR_keep y (fun b b0 b1 => f b (by omega))
  have g1 : st (st M 55 1 ((M 55 1 + 20 - 1) % 20)) 55 2 (M 55 2 - 1) 55 1 = (M 55 1 + 20 - 1) % 20 := by rw [st_self, su_ne _ _ (by omega), st_self, su_self]
  have g2 : st (st M 55 1 ((M 55 1 + 20 - 1) % 20)) 55 2 (M 55 2 - 1) 55 2 = M 55 2 - 1 := by rw [st_self, su_self]
  refine ⟨_, ?_, SR_tkO k44 hk (by omega) wT y2, ⟨⟨?_, by omega⟩, ?_, fun j w hw => ?_⟩, fun b hb => by rw [tkO_ne (by omega)]; exact f b (by omega)⟩
  · rw [Xe_X11_undo]
    simp (disch := omega) only [Rm_aload_n (k := 0) rfl dX11_undo_0, Rm_getfield fl_11_82 dX11_undo_1, Rm_aload_n (k := 0) rfl dX11_undo_4, Rm_getfield fl_11_68 dX11_undo_5, Rm_inV1 (d := dX11_undo_8) (hy := mo_25) (h13 := rfl) ml_11_234 rfl, Rn_if_ne (t := 22) rfl dX11_undo_11, Rm_aload_n (k := 0) rfl dX11_undo_14, Rn_iconst (v := jI (3)) rfl dX11_undo_15, Rm_inV1 (d := dX11_undo_16) (hy := mo_122) (h13 := rfl) ml_11_107 rfl, Rn_pop_int dX11_undo_19, Rn_pop_ref dX11_undo_19, Rn_iconst (v := jI (0)) rfl dX11_undo_20, Rn_ireturn (ty := .boolean) rfl dX11_undo_21, Rn_iconst (v := jI (1)) rfl dX11_undo_22, Rn_ireturn (ty := .boolean) rfl dX11_undo_23, gs11_9 k8, gs11_12 k8, io11 k8, io11 k8, io3 k55, e1, qI_s, qJ_s, qR_s, qV_s, qX_s, qN_s, qW_s, qF_s, qC_s, Option.bind_some, Option.bind_none, Nat.reduceAdd, Nat.reduceBEq, Nat.reduceEqDiff, lk_nil, lk_cons, lk_pt1, lk_pt2i, isJ_i, isJ_r, isJ_l, gI_i, gJ_i, gR_i, Bool.false_eq_true, if_true, if_false, ite_true, ite_false, ↓reduceIte, len4_0, len4_1, len4_2, len4_3, len4_4, Option.toList_some, Option.toList_none, List.cons_append, List.nil_append, va_rf_s, up_hp, ofI_j, jI_add, jI_sub, jI_mul, jI_neg, jL_add, jL_sub, jL_mul, jI_jL, jL_jI, nar_i, nar_zj, lt_t, lt_f, le_t, le_f, eq_t, eq_f, ez_t, ez_f, lz_t, lz_f, gz_t, gz_f, nz_t, nz_f, pz_t, pz_f, lgc_gt, lgc_lt, lgc_ge, lgc_le, lgc_eq, Lt_t, Lt_f, Le_t, Le_f, Eq_t, Eq_f, dv_j, not_true_eq_false, not_false_eq_true, Int.reduceEq, Int.reduceAdd, Int.reduceSub, Int.reduceMul, Int.reduceNeg, Ez_t, Ez_f, dv_L, false_and, true_and, and_true, and_false]
  · rw [tkO_ne (by omega), g2, h1]; omega
  · rw [tkO_ne (by omega), g1]; omega
  · have hj : j < 19 := by
      have := (List.getElem?_eq_some_iff.mp hw).1
      omega
    have := h3 (j + 1) w (by simpa using hw)
    rw [tkO_ne (by omega), g1, show (((M 55 1 + 20 - 1) % 20 + 19 - (j : Int)) % 20).toNat = ((M 55 1 + 19 - ((j + 1 : Nat) : Int)) % 20).toNat by omega]
    exact SR_keep this (fun b b0 b1 => by rw [tkO_ne (by omega)]; exact f b (by omega))
end

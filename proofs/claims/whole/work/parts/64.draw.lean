/-! a draw -/
theorem land_j {a : Int} (h0 : 0 ≤ a) (h1 : a < 9223372036854775808) : jL a &&& jL 2147483647 = jL (a % 2147483648) := by
  have e : ∀ x : Int, 0 ≤ x → x < 9223372036854775808 → (jL x).toBitVec = BitVec.ofNat 64 x.toNat := by
    intro x q0 q1
    have : jL x = lN x.toNat := by rw [jL_lN]; congr 1; omega
    rw [this]
    rfl
  apply Int64.toBitVec_inj.mp
  rw [Int64.toBitVec_and, e a h0 h1, e 2147483647 (by omega) (by omega), e (a % 2147483648) (by omega) (by omega)]
  apply BitVec.eq_of_toNat_eq
  rw [BitVec.toNat_and, BitVec.toNat_ofNat, BitVec.toNat_ofNat, BitVec.toNat_ofNat, Nat.mod_eq_of_lt (show a.toNat < 2 ^ 64 by omega), Nat.mod_eq_of_lt (show (2147483647 : Int).toNat < 2 ^ 64 by decide), Nat.mod_eq_of_lt (show (a % 2147483648).toNat < 2 ^ 64 by omega)]
  have := Nat.and_two_pow_sub_one_eq_mod a.toNat 31
  have e2 : (2147483647 : Int).toNat = 2 ^ 31 - 1 := by decide
  rw [e2, this]
  omega
def drF (x : Int) : Int := (1103515245 * x + 12345) % 2147483648
def dvF (x m : Int) : Int := drF x / 64 % m
theorem drF_rng (x : Int) : 0 ≤ drF x ∧ drF x < 2147483648 := by unfold drF; omega
section
variable {n z : Nat} {H : Nat → AC} {M : Me} (d : Nat)
set_option maxHeartbeats 4000000 in
theorem c_draw {m : Int} (m0 : 1 ≤ m) (m1 : m ≤ 100) (x0 : 0 ≤ M 8 15) (x1 : M 8 15 < 2147483648) : X (d + 1) 133 [.ref 8, .int (jI m)] (n, z, hp H M) = some (some (.int (jI (dvF (M 8 15) m))), (n, z, hp H (st M 8 15 (drF (M 8 15))))) := by
  have r := drF_rng (M 8 15)
  have e : (1103515245 * M 8 15 + 12345) % 2147483648 = drF (M 8 15) := rfl
  have r3 : 0 ≤ drF (M 8 15) / 64 % m ∧ drF (M 8 15) / 64 % m < m := ⟨Int.emod_nonneg _ (by omega), Int.emod_lt_of_pos _ (by omega)⟩
  have e2 : dvF (M 8 15) m = drF (M 8 15) / 64 % m := rfl
  rw [Xe_X11_draw, e2]
  simp (disch := omega) only [Rm_aload_n (k := 0) rfl dX11_draw_0, Rn_ldc2_w lj_11_307 dX11_draw_1, Rm_aload_n (k := 0) rfl dX11_draw_4, Rm_getfield fl_11_100 dX11_draw_5, Rn_lmul dX11_draw_8, Rn_ldc2_w lj_11_309 dX11_draw_9, Rn_ladd dX11_draw_12, Rn_ldc2_w lj_11_311 dX11_draw_13, Rn_land dX11_draw_16, Rm_putfieldJ (ini := false) fl_11_100 rfl rfl dX11_draw_17, Rm_iload_n (k := 1) rfl dX11_draw_20, Rn_if_le (t := 39) rfl dX11_draw_21, Rm_aload_n (k := 0) rfl dX11_draw_24, Rm_getfield fl_11_100 dX11_draw_25, Rn_ldc2_w lj_11_313 dX11_draw_28, Rn_ldiv dX11_draw_31, Rm_iload_n (k := 1) rfl dX11_draw_32, Rn_i2l dX11_draw_33, Rn_lrem dX11_draw_34, Rn_l2i dX11_draw_35, Rn_goto (t := 40) rfl dX11_draw_36, Rn_iconst (v := jI (0)) rfl dX11_draw_39, Rn_ireturn (ty := .int) rfl dX11_draw_40, gs11_15 k8, ps11_15 k8, land_j, e, st_self, su_self, md_j, qI_s, qJ_s, qR_s, qV_s, qX_s, qN_s, qW_s, qF_s, qC_s, Option.bind_some, Option.bind_none, Nat.reduceAdd, Nat.reduceBEq, Nat.reduceEqDiff, lk_nil, lk_cons, lk_pt1, lk_pt2i, isJ_i, isJ_r, isJ_l, gI_i, gJ_i, gR_i, Bool.false_eq_true, if_true, if_false, ite_true, ite_false, ↓reduceIte, len4_0, len4_1, len4_2, len4_3, len4_4, Option.toList_some, Option.toList_none, List.cons_append, List.nil_append, va_rf_s, up_hp, ofI_j, jI_add, jI_sub, jI_mul, jI_neg, jL_add, jL_sub, jL_mul, jI_jL, jL_jI, nar_i, nar_zj, lt_t, lt_f, le_t, le_f, eq_t, eq_f, ez_t, ez_f, lz_t, lz_f, gz_t, gz_f, nz_t, nz_f, pz_t, pz_f, lgc_gt, lgc_lt, lgc_ge, lgc_le, lgc_eq, Lt_t, Lt_f, Le_t, Le_f, Eq_t, Eq_f, dv_j, not_true_eq_false, not_false_eq_true, Int.reduceEq, Int.reduceAdd, Int.reduceSub, Int.reduceMul, Int.reduceNeg, Ez_t, Ez_f, dv_L, false_and, true_and, and_true, and_false]
set_option maxHeartbeats 4000000 in
theorem r_draw {m : Int} (m0 : 1 ≤ m) (m1 : m ≤ 100) (x0 : 0 ≤ M 218 65) (x1 : M 218 65 < 2147483648) : X (d + 1) 227 [.ref 218, .int (jI m)] (n, z, hp H M) = some (some (.int (jI (dvF (M 218 65) m))), (n, z, hp H (st M 218 65 (drF (M 218 65))))) := by
  have r := drF_rng (M 218 65)
  have e : (1103515245 * M 218 65 + 12345) % 2147483648 = drF (M 218 65) := rfl
  have e2 : dvF (M 218 65) m = drF (M 218 65) / 64 % m := rfl
  rw [Xe_X12_drawOf, e2]
  simp (disch := omega) only [Rm_aload_n (k := 0) rfl dX12_drawOf_0, Rn_ldc2_w lj_12_569 dX12_drawOf_1, Rm_aload_n (k := 0) rfl dX12_drawOf_4, Rm_getfield fl_12_151 dX12_drawOf_5, Rn_lmul dX12_drawOf_8, Rn_ldc2_w lj_12_571 dX12_drawOf_9, Rn_ladd dX12_drawOf_12, Rn_ldc2_w lj_12_573 dX12_drawOf_13, Rn_lrem dX12_drawOf_16, Rm_putfieldJ (ini := false) fl_12_151 rfl rfl dX12_drawOf_17, Rm_aload_n (k := 0) rfl dX12_drawOf_20, Rm_getfield fl_12_151 dX12_drawOf_21, Rn_ldc2_w lj_12_575 dX12_drawOf_24, Rn_ldiv dX12_drawOf_27, Rm_iload_n (k := 1) rfl dX12_drawOf_28, Rn_i2l dX12_drawOf_29, Rn_lrem dX12_drawOf_30, Rn_l2i dX12_drawOf_31, Rn_ireturn (ty := .int) rfl dX12_drawOf_32, gs12_65 k218, ps12_65 k218, e, st_self, su_self, md_j, qI_s, qJ_s, qR_s, qV_s, qX_s, qN_s, qW_s, qF_s, qC_s, Option.bind_some, Option.bind_none, Nat.reduceAdd, Nat.reduceBEq, Nat.reduceEqDiff, lk_nil, lk_cons, lk_pt1, lk_pt2i, isJ_i, isJ_r, isJ_l, gI_i, gJ_i, gR_i, Bool.false_eq_true, if_true, if_false, ite_true, ite_false, ↓reduceIte, len4_0, len4_1, len4_2, len4_3, len4_4, Option.toList_some, Option.toList_none, List.cons_append, List.nil_append, va_rf_s, up_hp, ofI_j, jI_add, jI_sub, jI_mul, jI_neg, jL_add, jL_sub, jL_mul, jI_jL, jL_jI, nar_i, nar_zj, lt_t, lt_f, le_t, le_f, eq_t, eq_f, ez_t, ez_f, lz_t, lz_f, gz_t, gz_f, nz_t, nz_f, pz_t, pz_f, lgc_gt, lgc_lt, lgc_ge, lgc_le, lgc_eq, Lt_t, Lt_f, Le_t, Le_f, Eq_t, Eq_f, dv_j, not_true_eq_false, not_false_eq_true, Int.reduceEq, Int.reduceAdd, Int.reduceSub, Int.reduceMul, Int.reduceNeg, Ez_t, Ez_f, dv_L, false_and, true_and, and_true, and_false]
end

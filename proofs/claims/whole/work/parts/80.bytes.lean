/-! bytes of numbers -/
theorem jI_w (v : Int) : jI v = nI ((v % 4294967296).toNat) := by
  apply Int32.toBitVec_inj.mp
  apply BitVec.eq_of_toNat_eq
  show (BitVec.ofInt 32 v).toNat = (BitVec.ofNat 32 _).toNat
  rw [BitVec.toNat_ofInt, BitVec.toNat_ofNat]
  omega
theorem j255 (v : Int) : jI v &&& jI 255 = jI (v % 256) := by
  rw [jI_w v, pk_andN (show (v % 4294967296).toNat < 2 ^ 32 by omega) (m := jI 255) 8 rfl, jI_nI]
  congr 1
  omega
theorem nI_u (n : Nat) (h : n < 4294967296) : (nI n).toUInt32.toNat = n := by
  show (BitVec.ofNat 32 n).toNat = n
  rw [BitVec.toNat_ofNat]
  omega
theorem u_n {x : UInt32} {n : Nat} (h : x.toNat = n) : x.toInt32 = nI n := by
  apply Int32.toBitVec_inj.mp
  apply BitVec.eq_of_toNat_eq
  show x.toBitVec.toNat = (BitVec.ofNat 32 n).toNat
  rw [BitVec.toNat_ofNat, ← h]
  exact (Nat.mod_eq_of_lt x.toBitVec.isLt).symm
theorem ush_n (n : Nat) (h : n < 4294967296) (s : Nat) (hs : s < 32) : ((nI n).toUInt32 >>> ((nI s).toUInt32 &&& Int32.toUInt32 31)).toInt32 = nI (n / 2 ^ s) := by
  apply u_n
  have e : ((nI s).toUInt32 &&& Int32.toUInt32 31) = UInt32.ofNat s := by
    have : ∀ s, s < 32 → ((nI s).toUInt32 &&& Int32.toUInt32 31) = UInt32.ofNat s := by decide
    exact this s hs
  rw [e, UInt32.toNat_shiftRight, nI_u n h, Nat.shiftRight_eq_div_pow]
  have : (UInt32.ofNat s).toNat = s := by
    have : ∀ s, s < 32 → (UInt32.ofNat s).toNat = s := by decide
    exact this s hs
  rw [this, Nat.mod_eq_of_lt hs]
/-- a byte of a number -/
def byV (v : Int) (s : Nat) : Int := v / 2 ^ s % 256
theorem by_eq (v : Int) (s : Nat) (hs : s = 0 ∨ s = 8 ∨ s = 16 ∨ s = 24) : ((((v % 4294967296).toNat / 2 ^ s : Nat) : Int)) % 256 = byV v s := by
  unfold byV
  rcases hs with rfl | rfl | rfl | rfl <;> omega
theorem ush_b (v : Int) (s : Nat) (hs : s = 0 ∨ s = 8 ∨ s = 16 ∨ s = 24) : ((jI v).toUInt32 >>> ((jI (s : Int)).toUInt32 &&& Int32.toUInt32 31)).toInt32 &&& jI 255 = jI (byV v s) := by
  rw [jI_w v, ← jI_nI s, ush_n _ (by omega) s (by omega), jI_nI, j255, by_eq v s hs]
theorem sar_j (v : Int) (h0 : -2147483648 ≤ v) (h1 : v < 2147483648) (s : Nat) (hs : s < 32) : jI v >>> (jI (s : Int) &&& 31) = jI (v / 2 ^ s) := by
  apply Int32.toInt_inj.mp
  have e : (jI (s : Int) &&& 31) = Int32.ofNat s := by
    have : ∀ s : Nat, s < 32 → (jI (s : Int) &&& 31) = Int32.ofNat s := by decide
    exact this s hs
  have p : (1 : Int) ≤ 2 ^ s := by
    have : (0 : Int) < 2 ^ s := Int.pow_pos (by omega)
    omega
  have q1 : v / 2 ^ s < 2147483648 := by
    rcases Int.lt_or_le v 0 with q | q
    · have := Int.ediv_neg_of_neg_of_pos q (show (0 : Int) < 2 ^ s by omega)
      omega
    · have := Int.ediv_le_self (2 ^ s) q
      omega
  have q0 : -2147483648 ≤ v / 2 ^ s := by
    rw [Int.le_ediv_iff_mul_le (by omega)]
    have : -2147483648 * (2 : Int) ^ s ≤ -2147483648 * 1 := Int.mul_le_mul_of_nonpos_left (by omega) (by omega)
    omega
  rw [e, jI_toInt ⟨q0, q1⟩]
  have e2 : (Int32.ofNat s).toBitVec.toNat = s := by
    have : ∀ s : Nat, s < 32 → (Int32.ofNat s).toBitVec.toNat = s := by decide
    exact this s hs
  show (BitVec.sshiftRight' (jI v).toBitVec ((Int32.ofNat s).toBitVec.smod 32)).toInt = _
  have e3 : ((Int32.ofNat s).toBitVec.smod 32).toNat = s := by
    have : ∀ s : Nat, s < 32 → ((Int32.ofNat s).toBitVec.smod 32).toNat = s := by decide
    exact this s hs
  show ((jI v).toBitVec.sshiftRight ((Int32.ofNat s).toBitVec.smod 32).toNat).toInt = _
  rw [e3, BitVec.toInt_sshiftRight, Int.shiftRight_eq_div_pow]
  show (jI v).toInt / _ = _
  rw [jI_toInt ⟨h0, h1⟩, Int.natCast_pow]
  rfl
theorem sar_b (v : Int) (h0 : -2147483648 ≤ v) (h1 : v < 2147483648) (s : Nat) (hs : s < 32) : (jI v >>> (jI (s : Int) &&& 31)) &&& jI 255 = jI (byV v s) := by
  rw [sar_j v h0 h1 s hs, j255]
  rfl
/-- what feed puts -/
def byF (a b c d e : Int) (i : Int) : Int := if i < 4 then byV a (8 * (3 - i)).toNat else if i < 8 then byV b (8 * (7 - i)).toNat else if i < 12 then byV c (8 * (11 - i)).toNat else if i < 16 then byV d (8 * (15 - i)).toNat else byV e (8 * (19 - i)).toNat
theorem byV_rng (v : Int) (s : Nat) : 0 ≤ byV v s ∧ byV v s ≤ 255 := by
  unfold byV
  omega
theorem byF_rng (a b c d e i : Int) : 0 ≤ byF a b c d e i ∧ byF a b c d e i ≤ 255 := by
  unfold byF
  split
  · exact byV_rng _ _
  · split
    · exact byV_rng _ _
    · split
      · exact byV_rng _ _
      · split
        · exact byV_rng _ _
        · exact byV_rng _ _
section
variable {n z : Nat} {H : Nat → AC} {M : Me} (d : Nat)
/-- four bytes put -/
def pt4 (M : Me) (v : Int) (k : Int) : Me := st (setc M 12 (rowF k (fun i => byV v (8 * (3 - i)).toNat) 4 (M 12))) 8 4 (k + 4)
set_option maxHeartbeats 4000000 in
theorem s_putBytes {v k : Int} (hk : M 8 4 = k) (k0 : 0 ≤ k) (k1 : k ≤ 1596) : X (d + 1) 123 [.ref 8, .int (jI v)] (n, z, hp H M) = some (none, (n, z, hp H (pt4 M v k))) := by
  refine eq_of fun G hG => ?_
  have u0 : ((jI v).toUInt32 >>> ((jI 0).toUInt32 &&& Int32.toUInt32 31)).toInt32 &&& jI 255 = jI (byV v 0) := ush_b v 0 (by omega)
  have u8 : ((jI v).toUInt32 >>> ((jI 8).toUInt32 &&& Int32.toUInt32 31)).toInt32 &&& jI 255 = jI (byV v 8) := ush_b v 8 (by omega)
  have u16 : ((jI v).toUInt32 >>> ((jI 16).toUInt32 &&& Int32.toUInt32 31)).toInt32 &&& jI 255 = jI (byV v 16) := ush_b v 16 (by omega)
  have u24 : ((jI v).toUInt32 >>> ((jI 24).toUInt32 &&& Int32.toUInt32 31)).toInt32 &&& jI 255 = jI (byV v 24) := ush_b v 24 (by omega)
  rw [Xe_X11_putBytes]
  simp (disch := omega) only [Rn_bipush (v := jI (24)) rfl dX11_putBytes_0, Rn_istore_n (k := 2) (nL := 3) rfl rfl dX11_putBytes_2, qI_s, qJ_s, qR_s, qV_s, qX_s, qN_s, qW_s, qF_s, qC_s, Option.bind_some, Option.bind_none, Nat.reduceAdd, Nat.reduceBEq, Nat.reduceEqDiff, lk_nil, lk_cons, lk_pt1, lk_pt2i, isJ_i, isJ_r, isJ_l, gI_i, gJ_i, gR_i, Bool.false_eq_true, if_true, if_false, ite_true, ite_false, ↓reduceIte, len4_0, len4_1, len4_2, len4_3, len4_4, Option.toList_some, Option.toList_none, List.cons_append, List.nil_append, va_rf_s, up_hp, ofI_j, jI_add, jI_sub, jI_mul, jI_neg, jL_add, jL_sub, jL_mul, jI_jL, jL_jI, nar_i, nar_zj, lt_t, lt_f, le_t, le_f, eq_t, eq_f, ez_t, ez_f, lz_t, lz_f, gz_t, gz_f, nz_t, nz_f, pz_t, pz_f, lgc_gt, lgc_lt, lgc_ge, lgc_le, lgc_eq, Lt_t, Lt_f, Le_t, Le_f, Eq_t, Eq_f, dv_j, not_true_eq_false, not_false_eq_true, Int.reduceEq, Int.reduceAdd, Int.reduceSub, Int.reduceMul, Int.reduceNeg, Ez_t, Ez_f, dv_L, false_and, true_and, and_true, and_false]
  refine Rn_for 4 (fun j l1 M1 => M1 = st (setc M 12 (rowF k (fun i => byV v (8 * (3 - i)).toNat) j (M 12))) 8 4 (k + j) ∧ lk l1 0 = some (.ref 8) ∧ lk l1 1 = some (.int (jI v)) ∧ lk l1 2 = some (.int (jI (24 - 8 * j)))) G ?_ ?_ 0 (Nat.zero_le _) _ _ ?_
  · rintro j hj l1 M1 ⟨rfl, q0, q1, q2⟩ ih
    have e84 : ∀ g w, st (setc M 12 g) 8 4 w 8 4 = w := fun g w => by rw [st_self, su_self]
    have e12 : ∀ g w, st (setc M 12 g) 8 4 w 12 = g := fun g w => by rw [st_ne _ _ _ (by omega), setc_self]
    have fin : ∀ x : Int, x = byV v (8 * (3 - (j : Int))).toNat → st (st (st (setc M 12 (rowF k (fun i => byV v (8 * (3 - i)).toNat) j (M 12))) 8 4 (k + j)) 12 (k + j) x) 8 4 (k + j + 1) = st (setc M 12 (rowF k (fun i => byV v (8 * (3 - i)).toNat) (j + 1) (M 12))) 8 4 (k + (j + 1 : Nat)) := by
      intro x hx
      have er := rowF_su k (fun i => byV v (8 * (3 - i)).toNat) (M 12) j
      rw [← er, ← hx]
      funext a i
      by_cases qa : a = 8
      · subst qa
        by_cases qi : i = 4
        · subst qi
          rw [st_self, su_self, st_self, su_self]
          omega
        · rw [st_self, su_ne _ _ qi, st_ne _ _ _ (by omega), st_self, su_ne _ _ qi, st_self, su_ne _ _ qi, setc_ne _ _ (by omega), setc_ne _ _ (by omega)]
      · rw [st_ne _ _ _ qa, st_ne _ _ _ qa]
        by_cases qb : a = 12
        · subst qb
          rw [st_self, st_ne _ _ _ (by omega), setc_self, setc_self]
        · rw [st_ne _ _ _ qb, st_ne _ _ _ qa, setc_ne _ _ qb, setc_ne _ _ qb]
    rw [Rm_iload_n (k := 2) rfl dX11_putBytes_3]
    rcases (show j = 0 ∨ j = 1 ∨ j = 2 ∨ j = 3 by omega) with rfl | rfl | rfl | rfl
    · have f := fin (byV v 24) rfl
      simp only [Int.cast_ofNat_Int, Int.reduceMul, Int.reduceSub] at q2 f
      simp (disch := omega) only [Rn_if_lt (t := 51) rfl dX11_putBytes_4, Rm_aload_n (k := 0) rfl dX11_putBytes_7, Rm_getfield fl_11_37 dX11_putBytes_8, Rm_aload_n (k := 0) rfl dX11_putBytes_11, Rm_getfield fl_11_34 dX11_putBytes_12, Rm_arraylength dX11_putBytes_15, Rn_icmp_ge (t := 51) rfl dX11_putBytes_16, Rm_aload_n (k := 0) rfl dX11_putBytes_19, Rm_getfield fl_11_34 dX11_putBytes_20, Rm_aload_n (k := 0) rfl dX11_putBytes_23, Rm_getfield fl_11_37 dX11_putBytes_24, Rm_iload_n (k := 1) rfl dX11_putBytes_27, Rm_iload_n (k := 2) rfl dX11_putBytes_28, Rn_iushr dX11_putBytes_29, Rn_sipush (v := jI (255)) rfl dX11_putBytes_30, Rn_iand dX11_putBytes_33, Rm_iastore dX11_putBytes_34, Rm_aload_n (k := 0) rfl dX11_putBytes_35, Rn_dup_int dX11_putBytes_36, Rn_dup_ref dX11_putBytes_36, Rm_getfield fl_11_37 dX11_putBytes_37, Rn_iconst (v := jI (1)) rfl dX11_putBytes_40, Rn_iadd dX11_putBytes_41, Rm_putfieldI (ini := false) fl_11_37 rfl rfl dX11_putBytes_42, Rm_iinc (nL := 3) rfl dX11_putBytes_45, Rn_goto (t := 3) rfl dX11_putBytes_48, gs11_3 k8, rdM k12 l12, wrM k12 l12, alM k12 l12, gs11_4 k8, ps11_4 k8, q0, q1, q2, e84, e12, u24, Int.cast_ofNat_Int, qI_s, qJ_s, qR_s, qV_s, qX_s, qN_s, qW_s, qF_s, qC_s, Option.bind_some, Option.bind_none, Nat.reduceAdd, Nat.reduceBEq, Nat.reduceEqDiff, lk_nil, lk_cons, lk_pt1, lk_pt2i, isJ_i, isJ_r, isJ_l, gI_i, gJ_i, gR_i, Bool.false_eq_true, if_true, if_false, ite_true, ite_false, ↓reduceIte, len4_0, len4_1, len4_2, len4_3, len4_4, Option.toList_some, Option.toList_none, List.cons_append, List.nil_append, va_rf_s, up_hp, ofI_j, jI_add, jI_sub, jI_mul, jI_neg, jL_add, jL_sub, jL_mul, jI_jL, jL_jI, nar_i, nar_zj, lt_t, lt_f, le_t, le_f, eq_t, eq_f, ez_t, ez_f, lz_t, lz_f, gz_t, gz_f, nz_t, nz_f, pz_t, pz_f, lgc_gt, lgc_lt, lgc_ge, lgc_le, lgc_eq, Lt_t, Lt_f, Le_t, Le_f, Eq_t, Eq_f, dv_j, not_true_eq_false, not_false_eq_true, Int.reduceEq, Int.reduceAdd, Int.reduceSub, Int.reduceMul, Int.reduceNeg, Ez_t, Ez_f, dv_L, false_and, true_and, and_true, and_false]
      exact ih _ _ ⟨f, by simp [Option.bind_some, Option.bind_none, Nat.reduceAdd, Nat.reduceBEq, Nat.reduceEqDiff, lk_nil, lk_cons, lk_pt1, lk_pt2, lk_pt2b, isJ_i, isJ_r, isJ_l, gI_i, gJ_i, gR_i, Bool.false_eq_true, if_true, if_false, ite_true, ite_false, reduceIte, len4_0, len4_1, len4_2, len4_3, len4_4, Option.toList_some, Option.toList_none, List.cons_append, List.nil_append, gf_o, isO_o, pf_o, List.length_cons, List.length_nil, List.getElem?_cons_zero, List.getElem?_cons_succ, List.set_cons_zero, List.set_cons_succ, va_rf_s, up_self, rdi_a, rdi_5, rdi_0, rdi_4, wri_a, rdl_a, wrl_a, rdr_a, wrr_a, aln_0, aln_1, aln_3, aln_4, aln_5, ofI_1, ofI_m1, q0], by simp [Option.bind_some, Option.bind_none, Nat.reduceAdd, Nat.reduceBEq, Nat.reduceEqDiff, lk_nil, lk_cons, lk_pt1, lk_pt2, lk_pt2b, isJ_i, isJ_r, isJ_l, gI_i, gJ_i, gR_i, Bool.false_eq_true, if_true, if_false, ite_true, ite_false, reduceIte, len4_0, len4_1, len4_2, len4_3, len4_4, Option.toList_some, Option.toList_none, List.cons_append, List.nil_append, gf_o, isO_o, pf_o, List.length_cons, List.length_nil, List.getElem?_cons_zero, List.getElem?_cons_succ, List.set_cons_zero, List.set_cons_succ, va_rf_s, up_self, rdi_a, rdi_5, rdi_0, rdi_4, wri_a, rdl_a, wrl_a, rdr_a, wrr_a, aln_0, aln_1, aln_3, aln_4, aln_5, ofI_1, ofI_m1, q1], by simp [Option.bind_some, Option.bind_none, Nat.reduceAdd, Nat.reduceBEq, Nat.reduceEqDiff, lk_nil, lk_cons, lk_pt1, lk_pt2, lk_pt2b, isJ_i, isJ_r, isJ_l, gI_i, gJ_i, gR_i, Bool.false_eq_true, if_true, if_false, ite_true, ite_false, reduceIte, len4_0, len4_1, len4_2, len4_3, len4_4, Option.toList_some, Option.toList_none, List.cons_append, List.nil_append, gf_o, isO_o, pf_o, List.length_cons, List.length_nil, List.getElem?_cons_zero, List.getElem?_cons_succ, List.set_cons_zero, List.set_cons_succ, va_rf_s, up_self, rdi_a, rdi_5, rdi_0, rdi_4, wri_a, rdl_a, wrl_a, rdr_a, wrr_a, aln_0, aln_1, aln_3, aln_4, aln_5, ofI_1, ofI_m1]⟩
    · have f := fin (byV v 16) rfl
      simp only [Int.cast_ofNat_Int, Int.reduceMul, Int.reduceSub] at q2 f
      simp (disch := omega) only [Rn_if_lt (t := 51) rfl dX11_putBytes_4, Rm_aload_n (k := 0) rfl dX11_putBytes_7, Rm_getfield fl_11_37 dX11_putBytes_8, Rm_aload_n (k := 0) rfl dX11_putBytes_11, Rm_getfield fl_11_34 dX11_putBytes_12, Rm_arraylength dX11_putBytes_15, Rn_icmp_ge (t := 51) rfl dX11_putBytes_16, Rm_aload_n (k := 0) rfl dX11_putBytes_19, Rm_getfield fl_11_34 dX11_putBytes_20, Rm_aload_n (k := 0) rfl dX11_putBytes_23, Rm_getfield fl_11_37 dX11_putBytes_24, Rm_iload_n (k := 1) rfl dX11_putBytes_27, Rm_iload_n (k := 2) rfl dX11_putBytes_28, Rn_iushr dX11_putBytes_29, Rn_sipush (v := jI (255)) rfl dX11_putBytes_30, Rn_iand dX11_putBytes_33, Rm_iastore dX11_putBytes_34, Rm_aload_n (k := 0) rfl dX11_putBytes_35, Rn_dup_int dX11_putBytes_36, Rn_dup_ref dX11_putBytes_36, Rm_getfield fl_11_37 dX11_putBytes_37, Rn_iconst (v := jI (1)) rfl dX11_putBytes_40, Rn_iadd dX11_putBytes_41, Rm_putfieldI (ini := false) fl_11_37 rfl rfl dX11_putBytes_42, Rm_iinc (nL := 3) rfl dX11_putBytes_45, Rn_goto (t := 3) rfl dX11_putBytes_48, gs11_3 k8, rdM k12 l12, wrM k12 l12, alM k12 l12, gs11_4 k8, ps11_4 k8, q0, q1, q2, e84, e12, u16, Int.cast_ofNat_Int, qI_s, qJ_s, qR_s, qV_s, qX_s, qN_s, qW_s, qF_s, qC_s, Option.bind_some, Option.bind_none, Nat.reduceAdd, Nat.reduceBEq, Nat.reduceEqDiff, lk_nil, lk_cons, lk_pt1, lk_pt2i, isJ_i, isJ_r, isJ_l, gI_i, gJ_i, gR_i, Bool.false_eq_true, if_true, if_false, ite_true, ite_false, ↓reduceIte, len4_0, len4_1, len4_2, len4_3, len4_4, Option.toList_some, Option.toList_none, List.cons_append, List.nil_append, va_rf_s, up_hp, ofI_j, jI_add, jI_sub, jI_mul, jI_neg, jL_add, jL_sub, jL_mul, jI_jL, jL_jI, nar_i, nar_zj, lt_t, lt_f, le_t, le_f, eq_t, eq_f, ez_t, ez_f, lz_t, lz_f, gz_t, gz_f, nz_t, nz_f, pz_t, pz_f, lgc_gt, lgc_lt, lgc_ge, lgc_le, lgc_eq, Lt_t, Lt_f, Le_t, Le_f, Eq_t, Eq_f, dv_j, not_true_eq_false, not_false_eq_true, Int.reduceEq, Int.reduceAdd, Int.reduceSub, Int.reduceMul, Int.reduceNeg, Ez_t, Ez_f, dv_L, false_and, true_and, and_true, and_false]
      exact ih _ _ ⟨f, by simp [Option.bind_some, Option.bind_none, Nat.reduceAdd, Nat.reduceBEq, Nat.reduceEqDiff, lk_nil, lk_cons, lk_pt1, lk_pt2, lk_pt2b, isJ_i, isJ_r, isJ_l, gI_i, gJ_i, gR_i, Bool.false_eq_true, if_true, if_false, ite_true, ite_false, reduceIte, len4_0, len4_1, len4_2, len4_3, len4_4, Option.toList_some, Option.toList_none, List.cons_append, List.nil_append, gf_o, isO_o, pf_o, List.length_cons, List.length_nil, List.getElem?_cons_zero, List.getElem?_cons_succ, List.set_cons_zero, List.set_cons_succ, va_rf_s, up_self, rdi_a, rdi_5, rdi_0, rdi_4, wri_a, rdl_a, wrl_a, rdr_a, wrr_a, aln_0, aln_1, aln_3, aln_4, aln_5, ofI_1, ofI_m1, q0], by simp [Option.bind_some, Option.bind_none, Nat.reduceAdd, Nat.reduceBEq, Nat.reduceEqDiff, lk_nil, lk_cons, lk_pt1, lk_pt2, lk_pt2b, isJ_i, isJ_r, isJ_l, gI_i, gJ_i, gR_i, Bool.false_eq_true, if_true, if_false, ite_true, ite_false, reduceIte, len4_0, len4_1, len4_2, len4_3, len4_4, Option.toList_some, Option.toList_none, List.cons_append, List.nil_append, gf_o, isO_o, pf_o, List.length_cons, List.length_nil, List.getElem?_cons_zero, List.getElem?_cons_succ, List.set_cons_zero, List.set_cons_succ, va_rf_s, up_self, rdi_a, rdi_5, rdi_0, rdi_4, wri_a, rdl_a, wrl_a, rdr_a, wrr_a, aln_0, aln_1, aln_3, aln_4, aln_5, ofI_1, ofI_m1, q1], by simp [Option.bind_some, Option.bind_none, Nat.reduceAdd, Nat.reduceBEq, Nat.reduceEqDiff, lk_nil, lk_cons, lk_pt1, lk_pt2, lk_pt2b, isJ_i, isJ_r, isJ_l, gI_i, gJ_i, gR_i, Bool.false_eq_true, if_true, if_false, ite_true, ite_false, reduceIte, len4_0, len4_1, len4_2, len4_3, len4_4, Option.toList_some, Option.toList_none, List.cons_append, List.nil_append, gf_o, isO_o, pf_o, List.length_cons, List.length_nil, List.getElem?_cons_zero, List.getElem?_cons_succ, List.set_cons_zero, List.set_cons_succ, va_rf_s, up_self, rdi_a, rdi_5, rdi_0, rdi_4, wri_a, rdl_a, wrl_a, rdr_a, wrr_a, aln_0, aln_1, aln_3, aln_4, aln_5, ofI_1, ofI_m1]⟩
    · have f := fin (byV v 8) rfl
      simp only [Int.cast_ofNat_Int, Int.reduceMul, Int.reduceSub] at q2 f
      simp (disch := omega) only [Rn_if_lt (t := 51) rfl dX11_putBytes_4, Rm_aload_n (k := 0) rfl dX11_putBytes_7, Rm_getfield fl_11_37 dX11_putBytes_8, Rm_aload_n (k := 0) rfl dX11_putBytes_11, Rm_getfield fl_11_34 dX11_putBytes_12, Rm_arraylength dX11_putBytes_15, Rn_icmp_ge (t := 51) rfl dX11_putBytes_16, Rm_aload_n (k := 0) rfl dX11_putBytes_19, Rm_getfield fl_11_34 dX11_putBytes_20, Rm_aload_n (k := 0) rfl dX11_putBytes_23, Rm_getfield fl_11_37 dX11_putBytes_24, Rm_iload_n (k := 1) rfl dX11_putBytes_27, Rm_iload_n (k := 2) rfl dX11_putBytes_28, Rn_iushr dX11_putBytes_29, Rn_sipush (v := jI (255)) rfl dX11_putBytes_30, Rn_iand dX11_putBytes_33, Rm_iastore dX11_putBytes_34, Rm_aload_n (k := 0) rfl dX11_putBytes_35, Rn_dup_int dX11_putBytes_36, Rn_dup_ref dX11_putBytes_36, Rm_getfield fl_11_37 dX11_putBytes_37, Rn_iconst (v := jI (1)) rfl dX11_putBytes_40, Rn_iadd dX11_putBytes_41, Rm_putfieldI (ini := false) fl_11_37 rfl rfl dX11_putBytes_42, Rm_iinc (nL := 3) rfl dX11_putBytes_45, Rn_goto (t := 3) rfl dX11_putBytes_48, gs11_3 k8, rdM k12 l12, wrM k12 l12, alM k12 l12, gs11_4 k8, ps11_4 k8, q0, q1, q2, e84, e12, u8, Int.cast_ofNat_Int, qI_s, qJ_s, qR_s, qV_s, qX_s, qN_s, qW_s, qF_s, qC_s, Option.bind_some, Option.bind_none, Nat.reduceAdd, Nat.reduceBEq, Nat.reduceEqDiff, lk_nil, lk_cons, lk_pt1, lk_pt2i, isJ_i, isJ_r, isJ_l, gI_i, gJ_i, gR_i, Bool.false_eq_true, if_true, if_false, ite_true, ite_false, ↓reduceIte, len4_0, len4_1, len4_2, len4_3, len4_4, Option.toList_some, Option.toList_none, List.cons_append, List.nil_append, va_rf_s, up_hp, ofI_j, jI_add, jI_sub, jI_mul, jI_neg, jL_add, jL_sub, jL_mul, jI_jL, jL_jI, nar_i, nar_zj, lt_t, lt_f, le_t, le_f, eq_t, eq_f, ez_t, ez_f, lz_t, lz_f, gz_t, gz_f, nz_t, nz_f, pz_t, pz_f, lgc_gt, lgc_lt, lgc_ge, lgc_le, lgc_eq, Lt_t, Lt_f, Le_t, Le_f, Eq_t, Eq_f, dv_j, not_true_eq_false, not_false_eq_true, Int.reduceEq, Int.reduceAdd, Int.reduceSub, Int.reduceMul, Int.reduceNeg, Ez_t, Ez_f, dv_L, false_and, true_and, and_true, and_false]
      exact ih _ _ ⟨f, by simp [Option.bind_some, Option.bind_none, Nat.reduceAdd, Nat.reduceBEq, Nat.reduceEqDiff, lk_nil, lk_cons, lk_pt1, lk_pt2, lk_pt2b, isJ_i, isJ_r, isJ_l, gI_i, gJ_i, gR_i, Bool.false_eq_true, if_true, if_false, ite_true, ite_false, reduceIte, len4_0, len4_1, len4_2, len4_3, len4_4, Option.toList_some, Option.toList_none, List.cons_append, List.nil_append, gf_o, isO_o, pf_o, List.length_cons, List.length_nil, List.getElem?_cons_zero, List.getElem?_cons_succ, List.set_cons_zero, List.set_cons_succ, va_rf_s, up_self, rdi_a, rdi_5, rdi_0, rdi_4, wri_a, rdl_a, wrl_a, rdr_a, wrr_a, aln_0, aln_1, aln_3, aln_4, aln_5, ofI_1, ofI_m1, q0], by simp [Option.bind_some, Option.bind_none, Nat.reduceAdd, Nat.reduceBEq, Nat.reduceEqDiff, lk_nil, lk_cons, lk_pt1, lk_pt2, lk_pt2b, isJ_i, isJ_r, isJ_l, gI_i, gJ_i, gR_i, Bool.false_eq_true, if_true, if_false, ite_true, ite_false, reduceIte, len4_0, len4_1, len4_2, len4_3, len4_4, Option.toList_some, Option.toList_none, List.cons_append, List.nil_append, gf_o, isO_o, pf_o, List.length_cons, List.length_nil, List.getElem?_cons_zero, List.getElem?_cons_succ, List.set_cons_zero, List.set_cons_succ, va_rf_s, up_self, rdi_a, rdi_5, rdi_0, rdi_4, wri_a, rdl_a, wrl_a, rdr_a, wrr_a, aln_0, aln_1, aln_3, aln_4, aln_5, ofI_1, ofI_m1, q1], by simp [Option.bind_some, Option.bind_none, Nat.reduceAdd, Nat.reduceBEq, Nat.reduceEqDiff, lk_nil, lk_cons, lk_pt1, lk_pt2, lk_pt2b, isJ_i, isJ_r, isJ_l, gI_i, gJ_i, gR_i, Bool.false_eq_true, if_true, if_false, ite_true, ite_false, reduceIte, len4_0, len4_1, len4_2, len4_3, len4_4, Option.toList_some, Option.toList_none, List.cons_append, List.nil_append, gf_o, isO_o, pf_o, List.length_cons, List.length_nil, List.getElem?_cons_zero, List.getElem?_cons_succ, List.set_cons_zero, List.set_cons_succ, va_rf_s, up_self, rdi_a, rdi_5, rdi_0, rdi_4, wri_a, rdl_a, wrl_a, rdr_a, wrr_a, aln_0, aln_1, aln_3, aln_4, aln_5, ofI_1, ofI_m1]⟩
    · have f := fin (byV v 0) rfl
      simp only [Int.cast_ofNat_Int, Int.reduceMul, Int.reduceSub] at q2 f
      simp (disch := omega) only [Rn_if_lt (t := 51) rfl dX11_putBytes_4, Rm_aload_n (k := 0) rfl dX11_putBytes_7, Rm_getfield fl_11_37 dX11_putBytes_8, Rm_aload_n (k := 0) rfl dX11_putBytes_11, Rm_getfield fl_11_34 dX11_putBytes_12, Rm_arraylength dX11_putBytes_15, Rn_icmp_ge (t := 51) rfl dX11_putBytes_16, Rm_aload_n (k := 0) rfl dX11_putBytes_19, Rm_getfield fl_11_34 dX11_putBytes_20, Rm_aload_n (k := 0) rfl dX11_putBytes_23, Rm_getfield fl_11_37 dX11_putBytes_24, Rm_iload_n (k := 1) rfl dX11_putBytes_27, Rm_iload_n (k := 2) rfl dX11_putBytes_28, Rn_iushr dX11_putBytes_29, Rn_sipush (v := jI (255)) rfl dX11_putBytes_30, Rn_iand dX11_putBytes_33, Rm_iastore dX11_putBytes_34, Rm_aload_n (k := 0) rfl dX11_putBytes_35, Rn_dup_int dX11_putBytes_36, Rn_dup_ref dX11_putBytes_36, Rm_getfield fl_11_37 dX11_putBytes_37, Rn_iconst (v := jI (1)) rfl dX11_putBytes_40, Rn_iadd dX11_putBytes_41, Rm_putfieldI (ini := false) fl_11_37 rfl rfl dX11_putBytes_42, Rm_iinc (nL := 3) rfl dX11_putBytes_45, Rn_goto (t := 3) rfl dX11_putBytes_48, gs11_3 k8, rdM k12 l12, wrM k12 l12, alM k12 l12, gs11_4 k8, ps11_4 k8, q0, q1, q2, e84, e12, u0, Int.cast_ofNat_Int, qI_s, qJ_s, qR_s, qV_s, qX_s, qN_s, qW_s, qF_s, qC_s, Option.bind_some, Option.bind_none, Nat.reduceAdd, Nat.reduceBEq, Nat.reduceEqDiff, lk_nil, lk_cons, lk_pt1, lk_pt2i, isJ_i, isJ_r, isJ_l, gI_i, gJ_i, gR_i, Bool.false_eq_true, if_true, if_false, ite_true, ite_false, ↓reduceIte, len4_0, len4_1, len4_2, len4_3, len4_4, Option.toList_some, Option.toList_none, List.cons_append, List.nil_append, va_rf_s, up_hp, ofI_j, jI_add, jI_sub, jI_mul, jI_neg, jL_add, jL_sub, jL_mul, jI_jL, jL_jI, nar_i, nar_zj, lt_t, lt_f, le_t, le_f, eq_t, eq_f, ez_t, ez_f, lz_t, lz_f, gz_t, gz_f, nz_t, nz_f, pz_t, pz_f, lgc_gt, lgc_lt, lgc_ge, lgc_le, lgc_eq, Lt_t, Lt_f, Le_t, Le_f, Eq_t, Eq_f, dv_j, not_true_eq_false, not_false_eq_true, Int.reduceEq, Int.reduceAdd, Int.reduceSub, Int.reduceMul, Int.reduceNeg, Ez_t, Ez_f, dv_L, false_and, true_and, and_true, and_false]
      exact ih _ _ ⟨f, by simp [Option.bind_some, Option.bind_none, Nat.reduceAdd, Nat.reduceBEq, Nat.reduceEqDiff, lk_nil, lk_cons, lk_pt1, lk_pt2, lk_pt2b, isJ_i, isJ_r, isJ_l, gI_i, gJ_i, gR_i, Bool.false_eq_true, if_true, if_false, ite_true, ite_false, reduceIte, len4_0, len4_1, len4_2, len4_3, len4_4, Option.toList_some, Option.toList_none, List.cons_append, List.nil_append, gf_o, isO_o, pf_o, List.length_cons, List.length_nil, List.getElem?_cons_zero, List.getElem?_cons_succ, List.set_cons_zero, List.set_cons_succ, va_rf_s, up_self, rdi_a, rdi_5, rdi_0, rdi_4, wri_a, rdl_a, wrl_a, rdr_a, wrr_a, aln_0, aln_1, aln_3, aln_4, aln_5, ofI_1, ofI_m1, q0], by simp [Option.bind_some, Option.bind_none, Nat.reduceAdd, Nat.reduceBEq, Nat.reduceEqDiff, lk_nil, lk_cons, lk_pt1, lk_pt2, lk_pt2b, isJ_i, isJ_r, isJ_l, gI_i, gJ_i, gR_i, Bool.false_eq_true, if_true, if_false, ite_true, ite_false, reduceIte, len4_0, len4_1, len4_2, len4_3, len4_4, Option.toList_some, Option.toList_none, List.cons_append, List.nil_append, gf_o, isO_o, pf_o, List.length_cons, List.length_nil, List.getElem?_cons_zero, List.getElem?_cons_succ, List.set_cons_zero, List.set_cons_succ, va_rf_s, up_self, rdi_a, rdi_5, rdi_0, rdi_4, wri_a, rdl_a, wrl_a, rdr_a, wrr_a, aln_0, aln_1, aln_3, aln_4, aln_5, ofI_1, ofI_m1, q1], by simp [Option.bind_some, Option.bind_none, Nat.reduceAdd, Nat.reduceBEq, Nat.reduceEqDiff, lk_nil, lk_cons, lk_pt1, lk_pt2, lk_pt2b, isJ_i, isJ_r, isJ_l, gI_i, gJ_i, gR_i, Bool.false_eq_true, if_true, if_false, ite_true, ite_false, reduceIte, len4_0, len4_1, len4_2, len4_3, len4_4, Option.toList_some, Option.toList_none, List.cons_append, List.nil_append, gf_o, isO_o, pf_o, List.length_cons, List.length_nil, List.getElem?_cons_zero, List.getElem?_cons_succ, List.set_cons_zero, List.set_cons_succ, va_rf_s, up_self, rdi_a, rdi_5, rdi_0, rdi_4, wri_a, rdl_a, wrl_a, rdr_a, wrr_a, aln_0, aln_1, aln_3, aln_4, aln_5, ofI_1, ofI_m1]⟩
  · rintro l1 M1 ⟨rfl, q0, q1, q2⟩
    rw [Rm_iload_n (k := 2) rfl dX11_putBytes_3]
    simp (disch := omega) only [Rn_if_lt (t := 51) rfl dX11_putBytes_4, Rn_return rfl dX11_putBytes_51, q0, q1, q2, Int.cast_ofNat_Int, qI_s, qJ_s, qR_s, qV_s, qX_s, qN_s, qW_s, qF_s, qC_s, Option.bind_some, Option.bind_none, Nat.reduceAdd, Nat.reduceBEq, Nat.reduceEqDiff, lk_nil, lk_cons, lk_pt1, lk_pt2i, isJ_i, isJ_r, isJ_l, gI_i, gJ_i, gR_i, Bool.false_eq_true, if_true, if_false, ite_true, ite_false, ↓reduceIte, len4_0, len4_1, len4_2, len4_3, len4_4, Option.toList_some, Option.toList_none, List.cons_append, List.nil_append, va_rf_s, up_hp, ofI_j, jI_add, jI_sub, jI_mul, jI_neg, jL_add, jL_sub, jL_mul, jI_jL, jL_jI, nar_i, nar_zj, lt_t, lt_f, le_t, le_f, eq_t, eq_f, ez_t, ez_f, lz_t, lz_f, gz_t, gz_f, nz_t, nz_f, pz_t, pz_f, lgc_gt, lgc_lt, lgc_ge, lgc_le, lgc_eq, Lt_t, Lt_f, Le_t, Le_f, Eq_t, Eq_f, dv_j, not_true_eq_false, not_false_eq_true, Int.reduceEq, Int.reduceAdd, Int.reduceSub, Int.reduceMul, Int.reduceNeg, Ez_t, Ez_f, dv_L, false_and, true_and, and_true, and_false]
    exact hG
  · refine ⟨?_, by simp [Option.bind_some, Option.bind_none, Nat.reduceAdd, Nat.reduceBEq, Nat.reduceEqDiff, lk_nil, lk_cons, lk_pt1, lk_pt2, lk_pt2b, isJ_i, isJ_r, isJ_l, gI_i, gJ_i, gR_i, Bool.false_eq_true, if_true, if_false, ite_true, ite_false, reduceIte, len4_0, len4_1, len4_2, len4_3, len4_4, Option.toList_some, Option.toList_none, List.cons_append, List.nil_append, gf_o, isO_o, pf_o, List.length_cons, List.length_nil, List.getElem?_cons_zero, List.getElem?_cons_succ, List.set_cons_zero, List.set_cons_succ, va_rf_s, up_self, rdi_a, rdi_5, rdi_0, rdi_4, wri_a, rdl_a, wrl_a, rdr_a, wrr_a, aln_0, aln_1, aln_3, aln_4, aln_5, ofI_1, ofI_m1], by simp [Option.bind_some, Option.bind_none, Nat.reduceAdd, Nat.reduceBEq, Nat.reduceEqDiff, lk_nil, lk_cons, lk_pt1, lk_pt2, lk_pt2b, isJ_i, isJ_r, isJ_l, gI_i, gJ_i, gR_i, Bool.false_eq_true, if_true, if_false, ite_true, ite_false, reduceIte, len4_0, len4_1, len4_2, len4_3, len4_4, Option.toList_some, Option.toList_none, List.cons_append, List.nil_append, gf_o, isO_o, pf_o, List.length_cons, List.length_nil, List.getElem?_cons_zero, List.getElem?_cons_succ, List.set_cons_zero, List.set_cons_succ, va_rf_s, up_self, rdi_a, rdi_5, rdi_0, rdi_4, wri_a, rdl_a, wrl_a, rdr_a, wrr_a, aln_0, aln_1, aln_3, aln_4, aln_5, ofI_1, ofI_m1], by simp [Option.bind_some, Option.bind_none, Nat.reduceAdd, Nat.reduceBEq, Nat.reduceEqDiff, lk_nil, lk_cons, lk_pt1, lk_pt2, lk_pt2b, isJ_i, isJ_r, isJ_l, gI_i, gJ_i, gR_i, Bool.false_eq_true, if_true, if_false, ite_true, ite_false, reduceIte, len4_0, len4_1, len4_2, len4_3, len4_4, Option.toList_some, Option.toList_none, List.cons_append, List.nil_append, gf_o, isO_o, pf_o, List.length_cons, List.length_nil, List.getElem?_cons_zero, List.getElem?_cons_succ, List.set_cons_zero, List.set_cons_succ, va_rf_s, up_self, rdi_a, rdi_5, rdi_0, rdi_4, wri_a, rdl_a, wrl_a, rdr_a, wrr_a, aln_0, aln_1, aln_3, aln_4, aln_5, ofI_1, ofI_m1]⟩
    rw [rowF_0, setc_id, Int.natCast_zero, Int.add_zero, ← hk]
    funext a i
    by_cases qa : a = 8
    · subst qa
      by_cases qi : i = 4
      · subst qi; rw [st_self, su_self]
      · rw [st_self, su_ne _ _ qi]
    · rw [st_ne _ _ _ qa]
end

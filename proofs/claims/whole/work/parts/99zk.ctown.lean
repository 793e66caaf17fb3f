/-! a town told: the class, all of it -/
theorem shl24 : ∀ k, k < 24 → (1 : Int32) <<< (nI k &&& 31) = nI (2 ^ k) := by decide +kernel
theorem orB {a x : Nat} (ha : a < 2 ^ 24) (hx : x < 24) : jI (a : Nat) ||| (jI 1 <<< (jI (x : Nat) &&& 31)) = jI ((a ||| 2 ^ x : Nat) : Int) ∧ a ||| 2 ^ x < 2 ^ 24 ∧ ∀ c : Nat, (a ||| 2 ^ x) / 2 ^ c % 2 = 1 ↔ (a / 2 ^ c % 2 = 1 ∨ c = x) := by
  have hp2 : 2 ^ x < 2 ^ 24 := Nat.pow_lt_pow_right (by omega) hx
  have hlt := Nat.or_lt_two_pow ha hp2
  refine ⟨?_, hlt, fun c => ?_⟩
  · have e1 : jI 1 <<< (jI (x : Nat) &&& 31) = nI (2 ^ x) := shl24 x hx
    rw [e1, ← jI_nI, ← jI_nI]
    apply Int32.toBitVec_inj.mp
    apply BitVec.eq_of_toNat_eq
    show (BitVec.ofNat 32 a ||| BitVec.ofNat 32 (2 ^ x)).toNat = (BitVec.ofNat 32 _).toNat
    rw [BitVec.toNat_or, BitVec.toNat_ofNat, BitVec.toNat_ofNat, BitVec.toNat_ofNat, Nat.mod_eq_of_lt (by omega), Nat.mod_eq_of_lt (by omega), Nat.mod_eq_of_lt (by omega)]
  · have t1 := Nat.testBit_or a (2 ^ x) c
    rw [Nat.testBit_two_pow, Nat.testBit_eq_decide_div_mod_eq, Nat.testBit_eq_decide_div_mod_eq] at t1
    constructor
    · intro h
      rw [decide_eq_true h] at t1
      have := t1.symm
      rw [Bool.or_eq_true, decide_eq_true_iff, decide_eq_true_iff] at this
      omega
    · intro h
      have h2 : (decide (a / 2 ^ c % 2 = 1) || decide (x = c)) = true := by
        rw [Bool.or_eq_true, decide_eq_true_iff, decide_eq_true_iff]
        omega
      rw [h2] at t1
      exact of_decide_eq_true t1
section
variable {n z : Nat} {H : Nat → AC} {M : Me} {g : Int → Int} {k e : Nat} {nb : Bool}
set_option maxHeartbeats 1000000 in
theorem n_fill {x L : Nat} (kx : kd x = 21) (lx : ln x = L) {v : Int} (d : Nat) : X (d + 1) 287 [.ref x, .int (jI v)] (n, z, hp H M) = some (none, (n, z, hp H (setc M x (rowF 0 (fun _ => v) L (M x))))) := by
  refine eq_of fun G hG => ?_
  have b0 := ln_le x
  rw [Xe_J7_fill_53178]
  simp (disch := omega) only [Rn_iconst (v := jI (0)) rfl dJ7_fill_53178_0, Rn_istore_n (k := 2) (nL := 4) rfl rfl dJ7_fill_53178_1, Rm_aload_n (k := 0) rfl dJ7_fill_53178_2, Rm_arraylength dJ7_fill_53178_3, Rn_istore_n (k := 3) (nL := 4) rfl rfl dJ7_fill_53178_4, alM kx lx, qI_s, qJ_s, qR_s, qV_s, qX_s, qN_s, qW_s, qF_s, qC_s, Option.bind_some, Option.bind_none, Nat.reduceAdd, Nat.reduceBEq, Nat.reduceEqDiff, lk_nil, lk_cons, lk_pt1, lk_pt2i, isJ_i, isJ_r, isJ_l, gI_i, gJ_i, gR_i, Bool.false_eq_true, if_true, if_false, ite_true, ite_false, ↓reduceIte, len4_0, len4_1, len4_2, len4_3, len4_4, Option.toList_some, Option.toList_none, List.cons_append, List.nil_append, va_rf_s, up_hp, ofI_j, jI_add, jI_sub, jI_mul, jI_neg, jL_add, jL_sub, jL_mul, jI_jL, jL_jI, nar_i, nar_zj, lt_t, lt_f, le_t, le_f, eq_t, eq_f, ez_t, ez_f, lz_t, lz_f, gz_t, gz_f, nz_t, nz_f, pz_t, pz_f, lgc_gt, lgc_lt, lgc_ge, lgc_le, lgc_eq, Lt_t, Lt_f, Le_t, Le_f, Eq_t, Eq_f, dv_j, not_true_eq_false, not_false_eq_true, Int.reduceEq, Int.reduceAdd, Int.reduceSub, Int.reduceMul, Int.reduceNeg, Ez_t, Ez_f, dv_L, false_and, true_and, and_true, and_false]
  refine Rn_for L (fun j l1 M1 => M1 = setc M x (rowF 0 (fun _ => v) j (M x)) ∧ lk l1 0 = some (.ref x) ∧ lk l1 1 = some (.int (jI v)) ∧ lk l1 2 = some (.int (jI j)) ∧ lk l1 3 = some (.int (jI L))) G ?_ ?_ 0 (Nat.zero_le _) _ _ ?_
  · rintro j hj l1 M1 ⟨rfl, q0, q1, q2, q3⟩ ih
    rw [Rm_iload_n (k := 2) rfl dJ7_fill_53178_5]
    simp (disch := omega) only [Rm_iload_n (k := 3) rfl dJ7_fill_53178_6, Rn_icmp_ge (t := 20) rfl dJ7_fill_53178_7, Rm_aload_n (k := 0) rfl dJ7_fill_53178_10, Rm_iload_n (k := 2) rfl dJ7_fill_53178_11, Rm_iload_n (k := 1) rfl dJ7_fill_53178_12, Rm_iastore dJ7_fill_53178_13, Rm_iinc (nL := 4) rfl dJ7_fill_53178_14, Rn_goto (t := 5) rfl dJ7_fill_53178_17, wrM kx lx, q0, q1, q2, q3, qI_s, qJ_s, qR_s, qV_s, qX_s, qN_s, qW_s, qF_s, qC_s, Option.bind_some, Option.bind_none, Nat.reduceAdd, Nat.reduceBEq, Nat.reduceEqDiff, lk_nil, lk_cons, lk_pt1, lk_pt2i, isJ_i, isJ_r, isJ_l, gI_i, gJ_i, gR_i, Bool.false_eq_true, if_true, if_false, ite_true, ite_false, ↓reduceIte, len4_0, len4_1, len4_2, len4_3, len4_4, Option.toList_some, Option.toList_none, List.cons_append, List.nil_append, va_rf_s, up_hp, ofI_j, jI_add, jI_sub, jI_mul, jI_neg, jL_add, jL_sub, jL_mul, jI_jL, jL_jI, nar_i, nar_zj, lt_t, lt_f, le_t, le_f, eq_t, eq_f, ez_t, ez_f, lz_t, lz_f, gz_t, gz_f, nz_t, nz_f, pz_t, pz_f, lgc_gt, lgc_lt, lgc_ge, lgc_le, lgc_eq, Lt_t, Lt_f, Le_t, Le_f, Eq_t, Eq_f, dv_j, not_true_eq_false, not_false_eq_true, Int.reduceEq, Int.reduceAdd, Int.reduceSub, Int.reduceMul, Int.reduceNeg, Ez_t, Ez_f, dv_L, false_and, true_and, and_true, and_false]
    refine ih _ _ ⟨?_, by simp [Option.bind_some, Option.bind_none, Nat.reduceAdd, Nat.reduceBEq, Nat.reduceEqDiff, lk_nil, lk_cons, lk_pt1, lk_pt2, lk_pt2b, isJ_i, isJ_r, isJ_l, gI_i, gJ_i, gR_i, Bool.false_eq_true, if_true, if_false, ite_true, ite_false, reduceIte, len4_0, len4_1, len4_2, len4_3, len4_4, Option.toList_some, Option.toList_none, List.cons_append, List.nil_append, gf_o, isO_o, pf_o, List.length_cons, List.length_nil, List.getElem?_cons_zero, List.getElem?_cons_succ, List.set_cons_zero, List.set_cons_succ, va_rf_s, up_self, rdi_a, rdi_5, rdi_0, rdi_4, wri_a, rdl_a, wrl_a, rdr_a, wrr_a, aln_0, aln_1, aln_3, aln_4, aln_5, ofI_1, ofI_m1, q0], by simp [Option.bind_some, Option.bind_none, Nat.reduceAdd, Nat.reduceBEq, Nat.reduceEqDiff, lk_nil, lk_cons, lk_pt1, lk_pt2, lk_pt2b, isJ_i, isJ_r, isJ_l, gI_i, gJ_i, gR_i, Bool.false_eq_true, if_true, if_false, ite_true, ite_false, reduceIte, len4_0, len4_1, len4_2, len4_3, len4_4, Option.toList_some, Option.toList_none, List.cons_append, List.nil_append, gf_o, isO_o, pf_o, List.length_cons, List.length_nil, List.getElem?_cons_zero, List.getElem?_cons_succ, List.set_cons_zero, List.set_cons_succ, va_rf_s, up_self, rdi_a, rdi_5, rdi_0, rdi_4, wri_a, rdl_a, wrl_a, rdr_a, wrr_a, aln_0, aln_1, aln_3, aln_4, aln_5, ofI_1, ofI_m1, q1], by simp [Option.bind_some, Option.bind_none, Nat.reduceAdd, Nat.reduceBEq, Nat.reduceEqDiff, lk_nil, lk_cons, lk_pt1, lk_pt2, lk_pt2b, isJ_i, isJ_r, isJ_l, gI_i, gJ_i, gR_i, Bool.false_eq_true, if_true, if_false, ite_true, ite_false, reduceIte, len4_0, len4_1, len4_2, len4_3, len4_4, Option.toList_some, Option.toList_none, List.cons_append, List.nil_append, gf_o, isO_o, pf_o, List.length_cons, List.length_nil, List.getElem?_cons_zero, List.getElem?_cons_succ, List.set_cons_zero, List.set_cons_succ, va_rf_s, up_self, rdi_a, rdi_5, rdi_0, rdi_4, wri_a, rdl_a, wrl_a, rdr_a, wrr_a, aln_0, aln_1, aln_3, aln_4, aln_5, ofI_1, ofI_m1], by simp [Option.bind_some, Option.bind_none, Nat.reduceAdd, Nat.reduceBEq, Nat.reduceEqDiff, lk_nil, lk_cons, lk_pt1, lk_pt2, lk_pt2b, isJ_i, isJ_r, isJ_l, gI_i, gJ_i, gR_i, Bool.false_eq_true, if_true, if_false, ite_true, ite_false, reduceIte, len4_0, len4_1, len4_2, len4_3, len4_4, Option.toList_some, Option.toList_none, List.cons_append, List.nil_append, gf_o, isO_o, pf_o, List.length_cons, List.length_nil, List.getElem?_cons_zero, List.getElem?_cons_succ, List.set_cons_zero, List.set_cons_succ, va_rf_s, up_self, rdi_a, rdi_5, rdi_0, rdi_4, wri_a, rdl_a, wrl_a, rdr_a, wrr_a, aln_0, aln_1, aln_3, aln_4, aln_5, ofI_1, ofI_m1, q3]⟩
    have := rowF_su 0 (fun _ => v) (M x) j
    rw [Int.zero_add] at this
    rw [st_setc, this]
  · rintro l1 M1 ⟨rfl, q0, q1, q2, q3⟩
    rw [Rm_iload_n (k := 2) rfl dJ7_fill_53178_5]
    simp (disch := omega) only [Rm_iload_n (k := 3) rfl dJ7_fill_53178_6, Rn_icmp_ge (t := 20) rfl dJ7_fill_53178_7, Rn_return rfl dJ7_fill_53178_20, q0, q1, q2, q3, qI_s, qJ_s, qR_s, qV_s, qX_s, qN_s, qW_s, qF_s, qC_s, Option.bind_some, Option.bind_none, Nat.reduceAdd, Nat.reduceBEq, Nat.reduceEqDiff, lk_nil, lk_cons, lk_pt1, lk_pt2i, isJ_i, isJ_r, isJ_l, gI_i, gJ_i, gR_i, Bool.false_eq_true, if_true, if_false, ite_true, ite_false, ↓reduceIte, len4_0, len4_1, len4_2, len4_3, len4_4, Option.toList_some, Option.toList_none, List.cons_append, List.nil_append, va_rf_s, up_hp, ofI_j, jI_add, jI_sub, jI_mul, jI_neg, jL_add, jL_sub, jL_mul, jI_jL, jL_jI, nar_i, nar_zj, lt_t, lt_f, le_t, le_f, eq_t, eq_f, ez_t, ez_f, lz_t, lz_f, gz_t, gz_f, nz_t, nz_f, pz_t, pz_f, lgc_gt, lgc_lt, lgc_ge, lgc_le, lgc_eq, Lt_t, Lt_f, Le_t, Le_f, Eq_t, Eq_f, dv_j, not_true_eq_false, not_false_eq_true, Int.reduceEq, Int.reduceAdd, Int.reduceSub, Int.reduceMul, Int.reduceNeg, Ez_t, Ez_f, dv_L, false_and, true_and, and_true, and_false]
    exact hG
  · exact ⟨by rw [rowF_0, setc_id], by simp [Option.bind_some, Option.bind_none, Nat.reduceAdd, Nat.reduceBEq, Nat.reduceEqDiff, lk_nil, lk_cons, lk_pt1, lk_pt2, lk_pt2b, isJ_i, isJ_r, isJ_l, gI_i, gJ_i, gR_i, Bool.false_eq_true, if_true, if_false, ite_true, ite_false, reduceIte, len4_0, len4_1, len4_2, len4_3, len4_4, Option.toList_some, Option.toList_none, List.cons_append, List.nil_append, gf_o, isO_o, pf_o, List.length_cons, List.length_nil, List.getElem?_cons_zero, List.getElem?_cons_succ, List.set_cons_zero, List.set_cons_succ, va_rf_s, up_self, rdi_a, rdi_5, rdi_0, rdi_4, wri_a, rdl_a, wrl_a, rdr_a, wrr_a, aln_0, aln_1, aln_3, aln_4, aln_5, ofI_1, ofI_m1], by simp [Option.bind_some, Option.bind_none, Nat.reduceAdd, Nat.reduceBEq, Nat.reduceEqDiff, lk_nil, lk_cons, lk_pt1, lk_pt2, lk_pt2b, isJ_i, isJ_r, isJ_l, gI_i, gJ_i, gR_i, Bool.false_eq_true, if_true, if_false, ite_true, ite_false, reduceIte, len4_0, len4_1, len4_2, len4_3, len4_4, Option.toList_some, Option.toList_none, List.cons_append, List.nil_append, gf_o, isO_o, pf_o, List.length_cons, List.length_nil, List.getElem?_cons_zero, List.getElem?_cons_succ, List.set_cons_zero, List.set_cons_succ, va_rf_s, up_self, rdi_a, rdi_5, rdi_0, rdi_4, wri_a, rdl_a, wrl_a, rdr_a, wrr_a, aln_0, aln_1, aln_3, aln_4, aln_5, ofI_1, ofI_m1], by simp [Option.bind_some, Option.bind_none, Nat.reduceAdd, Nat.reduceBEq, Nat.reduceEqDiff, lk_nil, lk_cons, lk_pt1, lk_pt2, lk_pt2b, isJ_i, isJ_r, isJ_l, gI_i, gJ_i, gR_i, Bool.false_eq_true, if_true, if_false, ite_true, ite_false, reduceIte, len4_0, len4_1, len4_2, len4_3, len4_4, Option.toList_some, Option.toList_none, List.cons_append, List.nil_append, gf_o, isO_o, pf_o, List.length_cons, List.length_nil, List.getElem?_cons_zero, List.getElem?_cons_succ, List.set_cons_zero, List.set_cons_succ, va_rf_s, up_self, rdi_a, rdi_5, rdi_0, rdi_4, wri_a, rdl_a, wrl_a, rdr_a, wrr_a, aln_0, aln_1, aln_3, aln_4, aln_5, ofI_1, ofI_m1], by simp [Option.bind_some, Option.bind_none, Nat.reduceAdd, Nat.reduceBEq, Nat.reduceEqDiff, lk_nil, lk_cons, lk_pt1, lk_pt2, lk_pt2b, isJ_i, isJ_r, isJ_l, gI_i, gJ_i, gR_i, Bool.false_eq_true, if_true, if_false, ite_true, ite_false, reduceIte, len4_0, len4_1, len4_2, len4_3, len4_4, Option.toList_some, Option.toList_none, List.cons_append, List.nil_append, gf_o, isO_o, pf_o, List.length_cons, List.length_nil, List.getElem?_cons_zero, List.getElem?_cons_succ, List.set_cons_zero, List.set_cons_succ, va_rf_s, up_self, rdi_a, rdi_5, rdi_0, rdi_4, wri_a, rdl_a, wrl_a, rdr_a, wrr_a, aln_0, aln_1, aln_3, aln_4, aln_5, ofI_1, ofI_m1]⟩
set_option maxHeartbeats 1000000 in
theorem s_clearT {t : Nat} (ht : kd t = 9) (d : Nat) : ∃ M' : Me, X (d + 2) 71 [.ref t] (n, z, hp H M) = some (none, (n, z, hp H M')) ∧ (∀ b, ¬ (t ≤ b ∧ b ≤ t + 12) → M' b = M b) ∧ CN M' t B0 ∧ BD M' t B0 0 ∧ M' t 0 = 0 := by
  have t9 := a9 ht
  have kc := kcode ht
  refine ex_of fun G hG => ?_
  have c1 := fun M => n_fill (n := n) (z := z) (H := H) (M := M) (ka9_1 ht) (la9_1 ht) (v := 0) d
  have c11 := fun M => n_fill (n := n) (z := z) (H := H) (M := M) (ka9_10 ht) (la9_10 ht) (v := 0) d
  have c12 := fun M => n_fill (n := n) (z := z) (H := H) (M := M) (ka9_11 ht) (la9_11 ht) (v := 0) d
  rw [Xe_X9_clear]
  simp (disch := omega) only [Rm_aload_n (k := 0) rfl dX9_clear_0, Rn_iconst (v := jI (0)) rfl dX9_clear_1, Rm_putfieldI (ini := false) fl_9_55 rfl rfl dX9_clear_2, Rm_aload_n (k := 0) rfl dX9_clear_5, Rm_getfield fl_9_13 dX9_clear_6, Rn_iconst (v := jI (0)) rfl dX9_clear_9, Rm_inS2 (d := dX9_clear_10) ml_9_59 rfl, Rm_aload_n (k := 0) rfl dX9_clear_13, Rm_getfield fl_9_42 dX9_clear_14, Rn_iconst (v := jI (0)) rfl dX9_clear_17, Rm_putfieldI (ini := false) fl_9_65 rfl rfl dX9_clear_18, Rm_aload_n (k := 0) rfl dX9_clear_21, Rm_getfield fl_9_46 dX9_clear_22, Rn_iconst (v := jI (0)) rfl dX9_clear_25, Rm_inS2 (d := dX9_clear_26) ml_9_59 rfl, Rm_aload_n (k := 0) rfl dX9_clear_29, Rm_getfield fl_9_49 dX9_clear_30, Rn_iconst (v := jI (0)) rfl dX9_clear_33, Rm_inS2 (d := dX9_clear_34) ml_9_59 rfl, Rm_aload_n (k := 0) rfl dX9_clear_37, Rn_iconst (v := jI (5)) rfl dX9_clear_38, Rm_putfieldI (ini := false) fl_9_68 rfl rfl dX9_clear_39, Rm_aload_n (k := 0) rfl dX9_clear_42, Rn_bipush (v := jI (18)) rfl dX9_clear_43, Rm_putfieldI (ini := false) fl_9_71 rfl rfl dX9_clear_45, Rm_aload_n (k := 0) rfl dX9_clear_48, Rn_iconst (v := jI (0)) rfl dX9_clear_49, Rm_putfieldI (ini := false) fl_9_74 rfl rfl dX9_clear_50, Rn_return rfl dX9_clear_53, gs9_1 ht, rdM (ka9_1 ht) (la9_1 ht), wrM (ka9_1 ht) (la9_1 ht), alM (ka9_1 ht) (la9_1 ht), gs9_9 ht, gs9_10 ht, rdM (ka9_10 ht) (la9_10 ht), wrM (ka9_10 ht) (la9_10 ht), alM (ka9_10 ht) (la9_10 ht), gs9_11 ht, rdM (ka9_11 ht) (la9_11 ht), wrM (ka9_11 ht) (la9_11 ht), alM (ka9_11 ht) (la9_11 ht), ps0_1 kc, ps9_0 ht, ps9_12 ht, ps9_13 ht, ps9_14 ht, c1, c11, c12, qI_s, qJ_s, qR_s, qV_s, qX_s, qN_s, qW_s, qF_s, qC_s, Option.bind_some, Option.bind_none, Nat.reduceAdd, Nat.reduceBEq, Nat.reduceEqDiff, lk_nil, lk_cons, lk_pt1, lk_pt2i, isJ_i, isJ_r, isJ_l, gI_i, gJ_i, gR_i, Bool.false_eq_true, if_true, if_false, ite_true, ite_false, ↓reduceIte, len4_0, len4_1, len4_2, len4_3, len4_4, Option.toList_some, Option.toList_none, List.cons_append, List.nil_append, va_rf_s, up_hp, ofI_j, jI_add, jI_sub, jI_mul, jI_neg, jL_add, jL_sub, jL_mul, jI_jL, jL_jI, nar_i, nar_zj, lt_t, lt_f, le_t, le_f, eq_t, eq_f, ez_t, ez_f, lz_t, lz_f, gz_t, gz_f, nz_t, nz_f, pz_t, pz_f, lgc_gt, lgc_lt, lgc_ge, lgc_le, lgc_eq, Lt_t, Lt_f, Le_t, Le_f, Eq_t, Eq_f, dv_j, not_true_eq_false, not_false_eq_true, Int.reduceEq, Int.reduceAdd, Int.reduceSub, Int.reduceMul, Int.reduceNeg, Ez_t, Ez_f, dv_L, false_and, true_and, and_true, and_false]
  refine hG _ ⟨fun b hb => ?_, ⟨fun kind hk4 => ?_, ?_, fun kind j hk4 hj => ?_⟩, ⟨fun p m p0 p1 => ?_, fun l l0 l1 => ?_, fun i i0 i1 => ?_, ⟨?_, fun j hj => ?_⟩, ?_, ?_, ?_⟩, ?_⟩
  · rw [st_ne _ _ _ (by omega), st_ne _ _ _ (by omega), st_ne _ _ _ (by omega), setc_ne _ _ (by omega), setc_ne _ _ (by omega), st_ne _ _ _ (by omega), setc_ne _ _ (by omega), st_ne _ _ _ (by omega)]
  · have e0 : cntK B0.1 kind = 0 := by
      unfold cntK
      repeat' split
      all_goals rfl
    have := kI_lt hk4
    rw [e0, st_ne _ _ _ (by omega), st_ne _ _ _ (by omega), st_ne _ _ _ (by omega), setc_ne _ _ (by omega), setc_ne _ _ (by omega), st_ne _ _ _ (by omega), setc_self, rowF_in (by omega) (by omega)]
    exact ⟨rfl, by omega⟩
  · rw [st_ne _ _ _ (by omega), st_ne _ _ _ (by omega), st_ne _ _ _ (by omega), setc_ne _ _ (by omega), setc_ne _ _ (by omega), st_ne _ _ _ (by omega), setc_self, rowF_in (by omega) (by omega)]
    rfl
  · have e0 : cntK B0.1 kind = 0 := by
      unfold cntK
      repeat' split
      all_goals rfl
    omega
  · have e1 : ((np B0.1 : Nat) : Int) = 0 := rfl
    omega
  · have e1 : ((nl B0.1 : Nat) : Int) = 0 := rfl
    omega
  · have e1 : ((ne B0.1 : Nat) : Int) = 0 := rfl
    omega
  · rw [st_ne _ _ _ (by omega), st_ne _ _ _ (by omega), st_ne _ _ _ (by omega), setc_ne _ _ (by omega), setc_ne _ _ (by omega), st_self, su_self]
    rfl
  · have e1 : nd B0.1 = 0 := rfl
    have f11 : ∀ i : Nat, i < 8 → (st (st (st (setc (setc (st (setc (st M t 0 0) (t + 1) (rowF 0 (fun _ => 0) 5 (st M t 0 0 (t + 1)))) (t + 9) 1 0) (t + 11) (rowF 0 (fun _ => 0) 8 (st (setc (st M t 0 0) (t + 1) (rowF 0 (fun _ => 0) 5 (st M t 0 0 (t + 1)))) (t + 9) 1 0 (t + 11)))) (t + 12) (rowF 0 (fun _ => 0) 8 (setc (st (setc (st M t 0 0) (t + 1) (rowF 0 (fun _ => 0) 5 (st M t 0 0 (t + 1)))) (t + 9) 1 0) (t + 11) (rowF 0 (fun _ => 0) 8 (st (setc (st M t 0 0) (t + 1) (rowF 0 (fun _ => 0) 5 (st M t 0 0 (t + 1)))) (t + 9) 1 0 (t + 11))) (t + 12)))) t 12 5) t 13 18) t 14 0) (t + 11) i = 0 := fun i hi => by rw [st_ne _ _ _ (by omega), st_ne _ _ _ (by omega), st_ne _ _ _ (by omega), setc_ne _ _ (by omega), setc_self, rowF_in (by omega) (by omega)]
    have f12 : ∀ i : Nat, i < 8 → (st (st (st (setc (setc (st (setc (st M t 0 0) (t + 1) (rowF 0 (fun _ => 0) 5 (st M t 0 0 (t + 1)))) (t + 9) 1 0) (t + 11) (rowF 0 (fun _ => 0) 8 (st (setc (st M t 0 0) (t + 1) (rowF 0 (fun _ => 0) 5 (st M t 0 0 (t + 1)))) (t + 9) 1 0 (t + 11)))) (t + 12) (rowF 0 (fun _ => 0) 8 (setc (st (setc (st M t 0 0) (t + 1) (rowF 0 (fun _ => 0) 5 (st M t 0 0 (t + 1)))) (t + 9) 1 0) (t + 11) (rowF 0 (fun _ => 0) 8 (st (setc (st M t 0 0) (t + 1) (rowF 0 (fun _ => 0) 5 (st M t 0 0 (t + 1)))) (t + 9) 1 0 (t + 11))) (t + 12)))) t 12 5) t 13 18) t 14 0) (t + 12) i = 0 := fun i hi => by rw [st_ne _ _ _ (by omega), st_ne _ _ _ (by omega), st_ne _ _ _ (by omega), setc_self, rowF_in (by omega) (by omega)]
    rw [f11 j (by omega), f12 j (by omega)]
    exact ⟨by omega, rfl, by omega, trivial⟩
  · rw [st_self, su_ne _ _ (by omega), st_self, su_ne _ _ (by omega), st_self, su_self]
    rfl
  · rw [st_self, su_ne _ _ (by omega), st_self, su_self]
    rfl
  · rw [st_self, su_self]
    rfl
  · rw [st_self, su_ne _ _ (by omega), st_self, su_ne _ _ (by omega), st_self, su_ne _ _ (by omega), setc_ne _ _ (by omega), setc_ne _ _ (by omega), st_ne _ _ _ (by omega), setc_ne _ _ (by omega), st_self, su_self]
theorem s_start (hW : Hw H) (hb : Byt g k) (hk : k ≤ 1600) (h12 : M 12 = g) (d : Nat) : ∃ M' : Me, X (d + 7) 41 [.ref 11, .int (jI (k : Nat))] (n, z, hp H M) = some (none, (n, z, hp H M')) ∧ (∀ b, ¬ b = 11 → M' b = M b) ∧ TK g k 0 false M' := by
  have em := fun h => j_min (d + 5) h (a := (k : Int)) (b := ((1600 : Nat) : Int)) (by omega) (by omega)
  have ex := fun h => j_max (d + 5) h (a := (0 : Int)) (b := (k : Int)) (by omega) (by omega)
  rw [show min (k : Int) ((1600 : Nat) : Int) = k by omega] at em
  rw [show max 0 (k : Int) = k by omega] at ex
  obtain ⟨M', e1, K1, T1⟩ := s_next (n := n) (z := z) (H := H) (M := st (st (st (st (st M 11 1 k) 11 2 0) 11 3 0) 11 7 0) 11 8 (-1)) hW (g := g) (k := k) (e := 0) (nb := false) (by rw [st_ne _ _ _ (by omega), st_ne _ _ _ (by omega), st_ne _ _ _ (by omega), st_ne _ _ _ (by omega), st_ne _ _ _ (by omega)]; exact h12) hb hk (by omega) (by rw [st_self, su_ne _ _ (by omega), st_self, su_ne _ _ (by omega), st_self, su_ne _ _ (by omega), st_self, su_ne _ _ (by omega), st_self, su_self]) (by rw [st_self, su_ne _ _ (by omega), st_self, su_ne _ _ (by omega), st_self, su_ne _ _ (by omega), st_self, su_self]; rfl) (by rw [st_self, su_ne _ _ (by omega), st_self, su_ne _ _ (by omega), st_self, su_self]; omega) (by rw [st_self, su_ne _ _ (by omega), st_self, su_ne _ _ (by omega), st_self, su_self]; simp) (by rw [st_self, su_self, su_ne _ _ (by omega), st_self, su_self]; exact ⟨rfl, rfl⟩) d
  refine ⟨M', ?_, fun b hb => ?_, T1⟩
  · rw [Xe_X6_start]
    simp (disch := omega) only [Rm_aload_n (k := 0) rfl dX6_start_0, Rn_iconst (v := jI (0)) rfl dX6_start_1, Rm_iload_n (k := 1) rfl dX6_start_2, Rm_aload_n (k := 0) rfl dX6_start_3, Rm_getfield fl_6_9 dX6_start_4, Rm_arraylength dX6_start_7, Rm_inS2 (d := dX6_start_8) ml_6_40 rfl, Rm_inS2 (d := dX6_start_11) ml_6_46 rfl, Rm_putfieldI (ini := false) fl_6_15 rfl rfl dX6_start_14, Rm_aload_n (k := 0) rfl dX6_start_17, Rn_iconst (v := jI (0)) rfl dX6_start_18, Rm_putfieldI (ini := false) fl_6_19 rfl rfl dX6_start_19, Rm_aload_n (k := 0) rfl dX6_start_22, Rn_iconst (v := jI (0)) rfl dX6_start_23, Rm_putfieldI (ini := false) fl_6_22 rfl rfl dX6_start_24, Rm_aload_n (k := 0) rfl dX6_start_27, Rn_iconst (v := jI (0)) rfl dX6_start_28, Rm_putfieldI (ini := false) fl_6_34 rfl rfl dX6_start_29, Rm_aload_n (k := 0) rfl dX6_start_32, Rn_iconst (v := jI (-1)) rfl dX6_start_33, Rm_putfieldI (ini := false) fl_6_37 rfl rfl dX6_start_34, Rm_aload_n (k := 0) rfl dX6_start_37, Rm_inV0 (d := dX6_start_38) (hy := mo_42) (h13 := rfl) ml_6_49 rfl, Rn_return rfl dX6_start_41, gs6_0 k11, rdM k12 l12, wrM k12 l12, alM k12 l12, io6 k11, ps6_1 k11, ps6_2 k11, ps6_3 k11, ps6_7 k11, ps6_8 k11, io6 k11, em, ex, e1, qI_s, qJ_s, qR_s, qV_s, qX_s, qN_s, qW_s, qF_s, qC_s, Option.bind_some, Option.bind_none, Nat.reduceAdd, Nat.reduceBEq, Nat.reduceEqDiff, lk_nil, lk_cons, lk_pt1, lk_pt2i, isJ_i, isJ_r, isJ_l, gI_i, gJ_i, gR_i, Bool.false_eq_true, if_true, if_false, ite_true, ite_false, ↓reduceIte, len4_0, len4_1, len4_2, len4_3, len4_4, Option.toList_some, Option.toList_none, List.cons_append, List.nil_append, va_rf_s, up_hp, ofI_j, jI_add, jI_sub, jI_mul, jI_neg, jL_add, jL_sub, jL_mul, jI_jL, jL_jI, nar_i, nar_zj, lt_t, lt_f, le_t, le_f, eq_t, eq_f, ez_t, ez_f, lz_t, lz_f, gz_t, gz_f, nz_t, nz_f, pz_t, pz_f, lgc_gt, lgc_lt, lgc_ge, lgc_le, lgc_eq, Lt_t, Lt_f, Le_t, Le_f, Eq_t, Eq_f, dv_j, not_true_eq_false, not_false_eq_true, Int.reduceEq, Int.reduceAdd, Int.reduceSub, Int.reduceMul, Int.reduceNeg, Ez_t, Ez_f, dv_L, false_and, true_and, and_true, and_false]
  · rw [K1.1 b hb, st_ne _ _ _ hb, st_ne _ _ _ hb, st_ne _ _ _ hb, st_ne _ _ _ hb, st_ne _ _ _ hb]
set_option maxHeartbeats 4000000 in
theorem s_busy {t s : Nat} {B : BT} (ht : kd t = 9) (hC : CN M t B) (hD : BD M t B s) (hB : wfB B) (d : Nat) : ∃ M' : Me, X (d + 1) 72 [.ref t] (n, z, hp H M) = some (none, (n, z, hp H M')) ∧ (∀ b, ¬ b = t → M' b = M b) ∧ (∀ i, ¬ i = 15 → M' t i = M t i) ∧ (0 ≤ M' t 15 ∧ M' t 15 < 2147483648) ∧ ∀ c : Nat, c < 24 → (M' t 15 / 2 ^ c % 2 = 0 ↔ ¬ ((c : Int) = tbak B.1 ∨ (c : Int) = tev B.1 ∨ ∃ i : Int, 0 ≤ i ∧ i < ne B.1 ∧ tmc B.1 i = c)) := by
  have t9 := a9 ht
  obtain ⟨⟨w1, w2, w3, w4, w5, w6, w7, w8, w9, w10, w11, w12, w13⟩, h2, h3⟩ := hB
  obtain ⟨d1, d2, d3, d4, d5, d6, d7⟩ := hD
  refine ex_of fun G hG => ?_
  obtain ⟨bk, hbk⟩ := Int.eq_ofNat_of_zero_le w11.1
  obtain ⟨vn, hvn⟩ := Int.eq_ofNat_of_zero_le w12.1
  have hbk24 : bk < 24 := by omega
  have hvn24 : vn < 24 := by omega
  have hp2 : 2 ^ bk < 2 ^ 24 := Nat.pow_lt_pow_right (by omega) hbk24
  obtain ⟨o1, o2, o3⟩ := orB hp2 hvn24
  have e1 : jI 1 <<< (jI (bk : Nat) &&& 31) = jI ((2 ^ bk : Nat) : Int) := shl24 bk hbk24
  rw [← e1] at o1
  have o4 : ∀ c : Nat, (2 ^ bk ||| 2 ^ vn) / 2 ^ c % 2 = 1 ↔ ((c : Int) = tbak B.1 ∨ (c : Int) = tev B.1) := fun c => by
    rw [o3 c]
    have := Nat.testBit_two_pow (n := bk) (m := c)
    rw [Nat.testBit_eq_decide_div_mod_eq] at this
    rw [decide_eq_decide] at this
    rw [this]
    omega
  rw [hbk] at d5
  rw [hvn] at d6
  have y3 : M (t + 1) 3 = (ne B.1 : Nat) := hC.2.1
  rw [Xe_X9_findBusyClocks]
  simp (disch := omega) only [Rm_aload_n (k := 0) rfl dX9_findBusyClocks_0, Rn_iconst (v := jI (1)) rfl dX9_findBusyClocks_1, Rm_aload_n (k := 0) rfl dX9_findBusyClocks_2, Rm_getfield fl_9_68 dX9_findBusyClocks_3, Rn_ishl dX9_findBusyClocks_6, Rn_iconst (v := jI (1)) rfl dX9_findBusyClocks_7, Rm_aload_n (k := 0) rfl dX9_findBusyClocks_8, Rm_getfield fl_9_71 dX9_findBusyClocks_9, Rn_ishl dX9_findBusyClocks_12, Rn_ior dX9_findBusyClocks_13, Rm_putfieldI (ini := false) fl_9_77 rfl rfl dX9_findBusyClocks_14, Rn_iconst (v := jI (0)) rfl dX9_findBusyClocks_17, Rn_istore_n (k := 1) (nL := 2) rfl rfl dX9_findBusyClocks_18, gs9_12 ht, gs9_13 ht, ps9_15 ht, d5, d6, o1, qI_s, qJ_s, qR_s, qV_s, qX_s, qN_s, qW_s, qF_s, qC_s, Option.bind_some, Option.bind_none, Nat.reduceAdd, Nat.reduceBEq, Nat.reduceEqDiff, lk_nil, lk_cons, lk_pt1, lk_pt2i, isJ_i, isJ_r, isJ_l, gI_i, gJ_i, gR_i, Bool.false_eq_true, if_true, if_false, ite_true, ite_false, ↓reduceIte, len4_0, len4_1, len4_2, len4_3, len4_4, Option.toList_some, Option.toList_none, List.cons_append, List.nil_append, va_rf_s, up_hp, ofI_j, jI_add, jI_sub, jI_mul, jI_neg, jL_add, jL_sub, jL_mul, jI_jL, jL_jI, nar_i, nar_zj, lt_t, lt_f, le_t, le_f, eq_t, eq_f, ez_t, ez_f, lz_t, lz_f, gz_t, gz_f, nz_t, nz_f, pz_t, pz_f, lgc_gt, lgc_lt, lgc_ge, lgc_le, lgc_eq, Lt_t, Lt_f, Le_t, Le_f, Eq_t, Eq_f, dv_j, not_true_eq_false, not_false_eq_true, Int.reduceEq, Int.reduceAdd, Int.reduceSub, Int.reduceMul, Int.reduceNeg, Ez_t, Ez_f, dv_L, false_and, true_and, and_true, and_false]
  refine Rn_for (ne B.1) (fun j l1 M1 => ((∀ b, ¬ b = t → M1 b = M b) ∧ (∀ i, ¬ i = 15 → M1 t i = M t i) ∧ ∃ a : Nat, M1 t 15 = a ∧ a < 2 ^ 24 ∧ ∀ c : Nat, (a / 2 ^ c % 2 = 1 ↔ ((c : Int) = tbak B.1 ∨ (c : Int) = tev B.1 ∨ ∃ i : Int, 0 ≤ i ∧ i < j ∧ tmc B.1 i = c))) ∧ lk l1 0 = some (.ref t) ∧ lk l1 1 = some (.int (jI j))) G ?_ ?_ 0 (Nat.zero_le _) _ _ ?_
  · rintro j hj l1 M1 ⟨⟨f1, f2, a, a1, a2, a3⟩, q0, q1⟩ ih
    obtain ⟨-, -, c1, c2⟩ := w7 j (by omega) (by omega)
    obtain ⟨cl, hcl⟩ := Int.eq_ofNat_of_zero_le c1
    obtain ⟨p1, p2, p3⟩ := orB (x := cl) a2 (by omega)
    have y8 : M1 (t + 8) j = (cl : Nat) := by rw [f1 _ (by omega), (d3 j (by omega) (by omega)).2.2]; exact hcl
    have z3 : M1 (t + 1) 3 = (ne B.1 : Nat) := by rw [f1 _ (by omega)]; exact y3
    rw [Rm_iload_n (k := 1) rfl dX9_findBusyClocks_19]
    simp (disch := omega) only [Rm_aload_n (k := 0) rfl dX9_findBusyClocks_20, Rm_getfield fl_9_13 dX9_findBusyClocks_21, Rn_iconst (v := jI (3)) rfl dX9_findBusyClocks_24, Rm_iaload dX9_findBusyClocks_25, Rn_icmp_ge (t := 52) rfl dX9_findBusyClocks_26, Rm_aload_n (k := 0) rfl dX9_findBusyClocks_29, Rn_dup_int dX9_findBusyClocks_30, Rn_dup_ref dX9_findBusyClocks_30, Rm_getfield fl_9_77 dX9_findBusyClocks_31, Rn_iconst (v := jI (1)) rfl dX9_findBusyClocks_34, Rm_aload_n (k := 0) rfl dX9_findBusyClocks_35, Rm_getfield fl_9_36 dX9_findBusyClocks_36, Rm_iload_n (k := 1) rfl dX9_findBusyClocks_39, Rm_iaload dX9_findBusyClocks_40, Rn_ishl dX9_findBusyClocks_41, Rn_ior dX9_findBusyClocks_42, Rm_putfieldI (ini := false) fl_9_77 rfl rfl dX9_findBusyClocks_43, Rm_iinc (nL := 2) rfl dX9_findBusyClocks_46, Rn_goto (t := 19) rfl dX9_findBusyClocks_49, gs9_1 ht, rdM (ka9_1 ht) (la9_1 ht), wrM (ka9_1 ht) (la9_1 ht), alM (ka9_1 ht) (la9_1 ht), gs9_8 ht, rdM (ka9_8 ht) (la9_8 ht), wrM (ka9_8 ht) (la9_8 ht), alM (ka9_8 ht) (la9_8 ht), gs9_15 ht, ps9_15 ht, q0, q1, z3, y8, a1, p1, qI_s, qJ_s, qR_s, qV_s, qX_s, qN_s, qW_s, qF_s, qC_s, Option.bind_some, Option.bind_none, Nat.reduceAdd, Nat.reduceBEq, Nat.reduceEqDiff, lk_nil, lk_cons, lk_pt1, lk_pt2i, isJ_i, isJ_r, isJ_l, gI_i, gJ_i, gR_i, Bool.false_eq_true, if_true, if_false, ite_true, ite_false, ↓reduceIte, len4_0, len4_1, len4_2, len4_3, len4_4, Option.toList_some, Option.toList_none, List.cons_append, List.nil_append, va_rf_s, up_hp, ofI_j, jI_add, jI_sub, jI_mul, jI_neg, jL_add, jL_sub, jL_mul, jI_jL, jL_jI, nar_i, nar_zj, lt_t, lt_f, le_t, le_f, eq_t, eq_f, ez_t, ez_f, lz_t, lz_f, gz_t, gz_f, nz_t, nz_f, pz_t, pz_f, lgc_gt, lgc_lt, lgc_ge, lgc_le, lgc_eq, Lt_t, Lt_f, Le_t, Le_f, Eq_t, Eq_f, dv_j, not_true_eq_false, not_false_eq_true, Int.reduceEq, Int.reduceAdd, Int.reduceSub, Int.reduceMul, Int.reduceNeg, Ez_t, Ez_f, dv_L, false_and, true_and, and_true, and_false]
    refine ih _ _ ⟨⟨fun b hb => by rw [st_ne _ _ _ hb]; exact f1 b hb, fun i hi => by rw [st_self, su_ne _ _ hi]; exact f2 i hi, _, by rw [st_self, su_self], p2, fun c => ?_⟩, by simp [Option.bind_some, Option.bind_none, Nat.reduceAdd, Nat.reduceBEq, Nat.reduceEqDiff, lk_nil, lk_cons, lk_pt1, lk_pt2, lk_pt2b, isJ_i, isJ_r, isJ_l, gI_i, gJ_i, gR_i, Bool.false_eq_true, if_true, if_false, ite_true, ite_false, reduceIte, len4_0, len4_1, len4_2, len4_3, len4_4, Option.toList_some, Option.toList_none, List.cons_append, List.nil_append, gf_o, isO_o, pf_o, List.length_cons, List.length_nil, List.getElem?_cons_zero, List.getElem?_cons_succ, List.set_cons_zero, List.set_cons_succ, va_rf_s, up_self, rdi_a, rdi_5, rdi_0, rdi_4, wri_a, rdl_a, wrl_a, rdr_a, wrr_a, aln_0, aln_1, aln_3, aln_4, aln_5, ofI_1, ofI_m1, q0], by simp [Option.bind_some, Option.bind_none, Nat.reduceAdd, Nat.reduceBEq, Nat.reduceEqDiff, lk_nil, lk_cons, lk_pt1, lk_pt2, lk_pt2b, isJ_i, isJ_r, isJ_l, gI_i, gJ_i, gR_i, Bool.false_eq_true, if_true, if_false, ite_true, ite_false, reduceIte, len4_0, len4_1, len4_2, len4_3, len4_4, Option.toList_some, Option.toList_none, List.cons_append, List.nil_append, gf_o, isO_o, pf_o, List.length_cons, List.length_nil, List.getElem?_cons_zero, List.getElem?_cons_succ, List.set_cons_zero, List.set_cons_succ, va_rf_s, up_self, rdi_a, rdi_5, rdi_0, rdi_4, wri_a, rdl_a, wrl_a, rdr_a, wrr_a, aln_0, aln_1, aln_3, aln_4, aln_5, ofI_1, ofI_m1]⟩
    rw [p3 c, a3 c]
    constructor
    · rintro ((h | h | ⟨i, i0, i1, i2⟩) | h)
      · exact Or.inl h
      · exact Or.inr (Or.inl h)
      · exact Or.inr (Or.inr ⟨i, i0, by omega, i2⟩)
      · exact Or.inr (Or.inr ⟨j, by omega, by omega, by rw [hcl, h]⟩)
    · rintro (h | h | ⟨i, i0, i1, i2⟩)
      · exact Or.inl (Or.inl h)
      · exact Or.inl (Or.inr (Or.inl h))
      · by_cases qi : i = j
        · rw [qi, hcl] at i2
          exact Or.inr (by omega)
        · exact Or.inl (Or.inr (Or.inr ⟨i, i0, by omega, i2⟩))
  · rintro l1 M1 ⟨⟨f1, f2, a, a1, a2, a3⟩, q0, q1⟩
    have z3 : M1 (t + 1) 3 = (ne B.1 : Nat) := by rw [f1 _ (by omega)]; exact y3
    have r := hG M1 ⟨f1, f2, by rw [a1]; omega, fun c hc => by
      have := a3 c
      rw [a1]
      rw [show ((a : Int) / 2 ^ c % 2) = ((a / 2 ^ c % 2 : Nat) : Int) by rw [Int.natCast_emod, Int.natCast_ediv, Int.natCast_pow]; rfl]
      rw [← this]
      omega⟩
    rw [Rm_iload_n (k := 1) rfl dX9_findBusyClocks_19]
    simp (disch := omega) only [Rm_aload_n (k := 0) rfl dX9_findBusyClocks_20, Rm_getfield fl_9_13 dX9_findBusyClocks_21, Rn_iconst (v := jI (3)) rfl dX9_findBusyClocks_24, Rm_iaload dX9_findBusyClocks_25, Rn_icmp_ge (t := 52) rfl dX9_findBusyClocks_26, gs9_1 ht, rdM (ka9_1 ht) (la9_1 ht), wrM (ka9_1 ht) (la9_1 ht), alM (ka9_1 ht) (la9_1 ht), Rn_return rfl dX9_findBusyClocks_52, q0, q1, z3, qI_s, qJ_s, qR_s, qV_s, qX_s, qN_s, qW_s, qF_s, qC_s, Option.bind_some, Option.bind_none, Nat.reduceAdd, Nat.reduceBEq, Nat.reduceEqDiff, lk_nil, lk_cons, lk_pt1, lk_pt2i, isJ_i, isJ_r, isJ_l, gI_i, gJ_i, gR_i, Bool.false_eq_true, if_true, if_false, ite_true, ite_false, ↓reduceIte, len4_0, len4_1, len4_2, len4_3, len4_4, Option.toList_some, Option.toList_none, List.cons_append, List.nil_append, va_rf_s, up_hp, ofI_j, jI_add, jI_sub, jI_mul, jI_neg, jL_add, jL_sub, jL_mul, jI_jL, jL_jI, nar_i, nar_zj, lt_t, lt_f, le_t, le_f, eq_t, eq_f, ez_t, ez_f, lz_t, lz_f, gz_t, gz_f, nz_t, nz_f, pz_t, pz_f, lgc_gt, lgc_lt, lgc_ge, lgc_le, lgc_eq, Lt_t, Lt_f, Le_t, Le_f, Eq_t, Eq_f, dv_j, not_true_eq_false, not_false_eq_true, Int.reduceEq, Int.reduceAdd, Int.reduceSub, Int.reduceMul, Int.reduceNeg, Ez_t, Ez_f, dv_L, false_and, true_and, and_true, and_false]
    exact r
  · refine ⟨⟨fun b hb => st_ne _ _ _ hb, fun i hi => by rw [st_self, su_ne _ _ hi], _, by rw [st_self, su_self], o2, fun c => ?_⟩, by simp [Option.bind_some, Option.bind_none, Nat.reduceAdd, Nat.reduceBEq, Nat.reduceEqDiff, lk_nil, lk_cons, lk_pt1, lk_pt2, lk_pt2b, isJ_i, isJ_r, isJ_l, gI_i, gJ_i, gR_i, Bool.false_eq_true, if_true, if_false, ite_true, ite_false, reduceIte, len4_0, len4_1, len4_2, len4_3, len4_4, Option.toList_some, Option.toList_none, List.cons_append, List.nil_append, gf_o, isO_o, pf_o, List.length_cons, List.length_nil, List.getElem?_cons_zero, List.getElem?_cons_succ, List.set_cons_zero, List.set_cons_succ, va_rf_s, up_self, rdi_a, rdi_5, rdi_0, rdi_4, wri_a, rdl_a, wrl_a, rdr_a, wrr_a, aln_0, aln_1, aln_3, aln_4, aln_5, ofI_1, ofI_m1], by simp [Option.bind_some, Option.bind_none, Nat.reduceAdd, Nat.reduceBEq, Nat.reduceEqDiff, lk_nil, lk_cons, lk_pt1, lk_pt2, lk_pt2b, isJ_i, isJ_r, isJ_l, gI_i, gJ_i, gR_i, Bool.false_eq_true, if_true, if_false, ite_true, ite_false, reduceIte, len4_0, len4_1, len4_2, len4_3, len4_4, Option.toList_some, Option.toList_none, List.cons_append, List.nil_append, gf_o, isO_o, pf_o, List.length_cons, List.length_nil, List.getElem?_cons_zero, List.getElem?_cons_succ, List.set_cons_zero, List.set_cons_succ, va_rf_s, up_self, rdi_a, rdi_5, rdi_0, rdi_4, wri_a, rdl_a, wrl_a, rdr_a, wrr_a, aln_0, aln_1, aln_3, aln_4, aln_5, ofI_1, ofI_m1]⟩
    rw [o4 c]
    constructor
    · rintro (h | h)
      · exact Or.inl h
      · exact Or.inr (Or.inl h)
    · rintro (h | h | ⟨i, i0, i1, -⟩)
      · exact Or.inl h
      · exact Or.inr h
      · omega
end

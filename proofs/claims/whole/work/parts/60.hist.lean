/-! what can be undone -/
def HC (T : TT) (M : Me) (hs : List Ss) : Prop := (M 55 2 = hs.length ∧ hs.length ≤ 20) ∧ (0 ≤ M 55 1 ∧ M 55 1 < 20) ∧ ∀ (j : Nat) (x : Ss), hs[j]? = some x → SR T M (57 + 5 * ((M 55 1 + 19 - j) % 20).toNat) x
def HR (T : TT) (M : Me) (hs : List Ss) : Prop := (M 218 63 = hs.length ∧ hs.length ≤ 20) ∧ (0 ≤ M 218 64 ∧ M 218 64 < 20) ∧ ∀ (j : Nat) (x : Ss), hs[j]? = some x → NR T (fun i => M 263 (95 * ((M 218 64 + 20 - j) % 20) + i)) x
def hsK (s : Ss) (hs : List Ss) : List Ss := (s :: hs).take 20
theorem hsK_get {s : Ss} {hs : List Ss} {j : Nat} {x : Ss} (h : (hsK s hs)[j]? = some x) : j < 20 ∧ ((j = 0 ∧ x = s) ∨ (1 ≤ j ∧ hs[j - 1]? = some x)) := by
  unfold hsK at h
  rw [List.getElem?_take] at h
  split at h
  · rename_i hj
    refine ⟨hj, ?_⟩
    cases j with
    | zero => simp at h; exact Or.inl ⟨rfl, h.symm⟩
    | succ j => simp at h; exact Or.inr ⟨by omega, by simpa using h⟩
  · cases h
theorem hsK_len {s : Ss} {hs : List Ss} (h : hs.length ≤ 20) : ((hsK s hs).length : Int) = min (hs.length + 1) 20 ∧ (hsK s hs).length ≤ 20 := by
  unfold hsK
  rw [List.length_take, List.length_cons]
  omega
/-- the class has kept all -/
def kpC (M : Me) : Me := st (st (tkO M (57 + 5 * (M 55 1).toNat) 44) 55 1 ((M 55 1 + 1) % 20)) 55 2 (min (M 55 2 + 1) 20)
theorem kpC_ne {M : Me} {b : Nat} (n0 : 0 ≤ M 55 1) (n1 : M 55 1 < 20) (h : ¬ (b = 55 ∨ (57 ≤ b ∧ b ≤ 156))) : kpC M b = M b := by
  unfold kpC
  rw [st_ne _ _ _ (by omega), st_ne _ _ _ (by omega), tkO_ne (by omega)]
theorem k_ring {i : Nat} (h : i < 20) : kd (57 + 5 * i) = 7 := by
  have : ∀ i, i < 20 → kd (57 + 5 * i) = 7 := by decide +kernel
  exact this i h
theorem HC_keep {T : TT} {M : Me} {s : Ss} {hs : List Ss} (wT : wfT T) (h : HC T M hs) (hS : SR T M 44 s) : HC T (kpC M) (hsK s hs) := by
  obtain ⟨⟨h1, h2⟩, ⟨n0, n1⟩, h3⟩ := h
  have e1 : kpC M 55 1 = (M 55 1 + 1) % 20 := by unfold kpC; rw [st_self, su_ne _ _ (by omega), st_self, su_self]
  have e2 : kpC M 55 2 = min (M 55 2 + 1) 20 := by unfold kpC; rw [st_self, su_self]
  obtain ⟨l1, l2⟩ := hsK_len (s := s) h2
  refine ⟨⟨by rw [e2, h1, l1]; omega, l2⟩, by rw [e1]; omega, fun j x hx => ?_⟩
  obtain ⟨hj, hx⟩ := hsK_get hx
  rw [e1]
  rcases hx with ⟨rfl, rfl⟩ | ⟨hj1, hx⟩
  · rw [show (((M 55 1 + 1) % 20 + 19 - ((0 : Nat) : Int)) % 20).toNat = (M 55 1).toNat by omega]
    have hk := k_ring (i := (M 55 1).toNat) (by omega)
    exact SR_keep (SR_tkO hk k44 (by omega) wT hS) (fun b b0 b1 => by unfold kpC; rw [st_ne _ _ _ (by omega), st_ne _ _ _ (by omega)])
  · have := h3 (j - 1) x hx
    rw [show (((M 55 1 + 1) % 20 + 19 - (j : Int)) % 20).toNat = ((M 55 1 + 19 - ((j - 1 : Nat) : Int)) % 20).toNat by omega]
    have hne : ¬ ((M 55 1 + 19 - ((j - 1 : Nat) : Int)) % 20).toNat = (M 55 1).toNat := by omega
    exact SR_keep this (fun b b0 b1 => by unfold kpC; rw [st_ne _ _ _ (by omega), st_ne _ _ _ (by omega), tkO_ne (by omega)])
section
variable {n z : Nat} {H : Nat → AC} {M : Me}
theorem s_keep44 (n0 : 0 ≤ M 55 1) (n1 : M 55 1 < 20) (k0 : 0 ≤ M 55 2) (k1 : M 55 2 ≤ 20) (d : Nat) : X (d + 4) 24 [.ref 55, .ref 44] (n, z, hp H M) = some (none, (n, z, hp H (kpC M))) := s_keep k44 n0 n1 k0 k1 (by omega) d
/-- the reference has kept all -/
def kpR (M : Me) : Me := st (setc (st M 218 64 ((M 218 64 + 1) % 20)) 263 (rowF (95 * ((M 218 64 + 1) % 20)) (M 259) 95 (M 263))) 218 63 (min (M 218 63 + 1) 20)
set_option maxHeartbeats 4000000 in
theorem m_keeps (n0 : 0 ≤ M 218 64) (n1 : M 218 64 < 20) (k0 : 0 ≤ M 218 63) (k1 : M 218 63 ≤ 20) (d : Nat) : X (d + 1) 220 [.ref 218] (n, z, hp H M) = some (none, (n, z, hp H (kpR M))) := by
  refine eq_of fun G hG => ?_
  unfold kpR at hG
  rw [Xe_X12_keeps]
  simp (disch := omega) only [Rm_aload_n (k := 0) rfl dX12_keeps_0, Rm_aload_n (k := 0) rfl dX12_keeps_1, Rm_getfield fl_12_558 dX12_keeps_2, Rn_iconst (v := jI (1)) rfl dX12_keeps_5, Rn_iadd dX12_keeps_6, Rn_bipush (v := jI (20)) rfl dX12_keeps_7, Rn_irem dX12_keeps_9, Rm_putfieldI (ini := false) fl_12_558 rfl rfl dX12_keeps_10, Rn_iconst (v := jI (0)) rfl dX12_keeps_13, Rn_istore_n (k := 1) (nL := 2) rfl rfl dX12_keeps_14, gs12_64 k218, ps12_64 k218, md_j, qI_s, qJ_s, qR_s, qV_s, qX_s, qN_s, qW_s, qF_s, qC_s, Option.bind_some, Option.bind_none, Nat.reduceAdd, Nat.reduceBEq, Nat.reduceEqDiff, lk_nil, lk_cons, lk_pt1, lk_pt2i, isJ_i, isJ_r, isJ_l, gI_i, gJ_i, gR_i, Bool.false_eq_true, if_true, if_false, ite_true, ite_false, ↓reduceIte, len4_0, len4_1, len4_2, len4_3, len4_4, Option.toList_some, Option.toList_none, List.cons_append, List.nil_append, va_rf_s, up_hp, ofI_j, jI_add, jI_sub, jI_mul, jI_neg, jL_add, jL_sub, jL_mul, jI_jL, jL_jI, nar_i, nar_zj, lt_t, lt_f, le_t, le_f, eq_t, eq_f, ez_t, ez_f, lz_t, lz_f, gz_t, gz_f, nz_t, nz_f, pz_t, pz_f, lgc_gt, lgc_lt, lgc_ge, lgc_le, lgc_eq, Lt_t, Lt_f, Le_t, Le_f, Eq_t, Eq_f, dv_j, not_true_eq_false, not_false_eq_true, Int.reduceEq, Int.reduceAdd, Int.reduceSub, Int.reduceMul, Int.reduceNeg, Ez_t, Ez_f, dv_L, false_and, true_and, and_true, and_false]
  generalize hnn : (M 218 64 + 1) % 20 = nn at *
  have r : 0 ≤ nn ∧ nn < 20 := by omega
  refine Rn_for 95 (fun j l1 M1 => M1 = setc (st M 218 64 nn) 263 (rowF (95 * nn) (M 259) j (M 263)) ∧ lk l1 0 = some (.ref 218) ∧ lk l1 1 = some (.int (jI j))) G ?_ ?_ 0 (Nat.zero_le _) _ _ ?_
  · rintro j hj l1 M1 ⟨rfl, q0, q1⟩ ih
    have e1 : ∀ g, setc (st M 218 64 nn) 263 g 259 = M 259 := fun g => by rw [setc_ne _ _ (by omega), st_ne _ _ _ (by omega)]
    have e2 : ∀ g, setc (st M 218 64 nn) 263 g 218 64 = nn := fun g => by rw [setc_ne _ _ (by omega), st_self, su_self]
    rw [Rm_iload_n (k := 1) rfl dX12_keeps_15]
    simp (disch := omega) only [Rn_bipush (v := jI (95)) rfl dX12_keeps_16, Rn_icmp_ge (t := 47) rfl dX12_keeps_18, Rm_aload_n (k := 0) rfl dX12_keeps_21, Rm_getfield fl_12_148 dX12_keeps_22, Rn_bipush (v := jI (95)) rfl dX12_keeps_25, Rm_aload_n (k := 0) rfl dX12_keeps_27, Rm_getfield fl_12_558 dX12_keeps_28, Rn_imul dX12_keeps_31, Rm_iload_n (k := 1) rfl dX12_keeps_32, Rn_iadd dX12_keeps_33, Rm_aload_n (k := 0) rfl dX12_keeps_34, Rm_getfield fl_12_136 dX12_keeps_35, Rm_iload_n (k := 1) rfl dX12_keeps_38, Rm_iaload dX12_keeps_39, Rm_iastore dX12_keeps_40, Rm_iinc (nL := 2) rfl dX12_keeps_41, Rn_goto (t := 15) rfl dX12_keeps_44, gs12_52 k218, rdM k259 l259, wrM k259 l259, alM k259 l259, gs12_62 k218, rdM k263 l263, wrM k263 l263, alM k263 l263, gs12_64 k218, qI_s, qJ_s, qR_s, qV_s, qX_s, qN_s, qW_s, qF_s, qC_s, Option.bind_some, Option.bind_none, Nat.reduceAdd, Nat.reduceBEq, Nat.reduceEqDiff, lk_nil, lk_cons, lk_pt1, lk_pt2i, isJ_i, isJ_r, isJ_l, gI_i, gJ_i, gR_i, Bool.false_eq_true, if_true, if_false, ite_true, ite_false, ↓reduceIte, len4_0, len4_1, len4_2, len4_3, len4_4, Option.toList_some, Option.toList_none, List.cons_append, List.nil_append, va_rf_s, up_hp, ofI_j, jI_add, jI_sub, jI_mul, jI_neg, jL_add, jL_sub, jL_mul, jI_jL, jL_jI, nar_i, nar_zj, lt_t, lt_f, le_t, le_f, eq_t, eq_f, ez_t, ez_f, lz_t, lz_f, gz_t, gz_f, nz_t, nz_f, pz_t, pz_f, lgc_gt, lgc_lt, lgc_ge, lgc_le, lgc_eq, Lt_t, Lt_f, Le_t, Le_f, Eq_t, Eq_f, dv_j, not_true_eq_false, not_false_eq_true, Int.reduceEq, Int.reduceAdd, Int.reduceSub, Int.reduceMul, Int.reduceNeg, Ez_t, Ez_f, dv_L, false_and, true_and, and_true, and_false, q0, q1, e1, e2]
    refine ih _ _ ⟨by rw [st_setc, rowF_su], by simp [Option.bind_some, Option.bind_none, Nat.reduceAdd, Nat.reduceBEq, Nat.reduceEqDiff, lk_nil, lk_cons, lk_pt1, lk_pt2, lk_pt2b, isJ_i, isJ_r, isJ_l, gI_i, gJ_i, gR_i, Bool.false_eq_true, if_true, if_false, ite_true, ite_false, reduceIte, len4_0, len4_1, len4_2, len4_3, len4_4, Option.toList_some, Option.toList_none, List.cons_append, List.nil_append, gf_o, isO_o, pf_o, List.length_cons, List.length_nil, List.getElem?_cons_zero, List.getElem?_cons_succ, List.set_cons_zero, List.set_cons_succ, va_rf_s, up_self, rdi_a, rdi_5, rdi_0, rdi_4, wri_a, rdl_a, wrl_a, rdr_a, wrr_a, aln_0, aln_1, aln_3, aln_4, aln_5, ofI_1, ofI_m1, q0], by simp [Option.bind_some, Option.bind_none, Nat.reduceAdd, Nat.reduceBEq, Nat.reduceEqDiff, lk_nil, lk_cons, lk_pt1, lk_pt2, lk_pt2b, isJ_i, isJ_r, isJ_l, gI_i, gJ_i, gR_i, Bool.false_eq_true, if_true, if_false, ite_true, ite_false, reduceIte, len4_0, len4_1, len4_2, len4_3, len4_4, Option.toList_some, Option.toList_none, List.cons_append, List.nil_append, gf_o, isO_o, pf_o, List.length_cons, List.length_nil, List.getElem?_cons_zero, List.getElem?_cons_succ, List.set_cons_zero, List.set_cons_succ, va_rf_s, up_self, rdi_a, rdi_5, rdi_0, rdi_4, wri_a, rdl_a, wrl_a, rdr_a, wrr_a, aln_0, aln_1, aln_3, aln_4, aln_5, ofI_1, ofI_m1]⟩
  · rintro l1 M1 ⟨rfl, q0, q1⟩
    have e3 : ∀ g, setc (st M 218 64 nn) 263 g 218 63 = M 218 63 := fun g => by rw [setc_ne _ _ (by omega), st_self, su_ne _ _ (by omega)]
    rw [Rm_iload_n (k := 1) rfl dX12_keeps_15]
    by_cases q : M 218 63 < 20
    · rw [show min (M 218 63 + 1) 20 = M 218 63 + 1 by omega] at hG
      simp (disch := omega) only [Rn_bipush (v := jI (95)) rfl dX12_keeps_16, Rn_icmp_ge (t := 47) rfl dX12_keeps_18, Rm_aload_n (k := 0) rfl dX12_keeps_21, Rm_getfield fl_12_148 dX12_keeps_22, Rn_bipush (v := jI (95)) rfl dX12_keeps_25, Rm_aload_n (k := 0) rfl dX12_keeps_27, Rm_getfield fl_12_558 dX12_keeps_28, Rn_imul dX12_keeps_31, Rm_iload_n (k := 1) rfl dX12_keeps_32, Rn_iadd dX12_keeps_33, Rm_aload_n (k := 0) rfl dX12_keeps_34, Rm_getfield fl_12_136 dX12_keeps_35, Rm_iload_n (k := 1) rfl dX12_keeps_38, Rm_iaload dX12_keeps_39, Rm_iastore dX12_keeps_40, Rm_iinc (nL := 2) rfl dX12_keeps_41, Rn_goto (t := 15) rfl dX12_keeps_44, Rm_aload_n (k := 0) rfl dX12_keeps_47, Rm_getfield fl_12_398 dX12_keeps_48, Rn_bipush (v := jI (20)) rfl dX12_keeps_51, Rn_icmp_ge (t := 66) rfl dX12_keeps_53, Rm_aload_n (k := 0) rfl dX12_keeps_56, Rn_dup_int dX12_keeps_57, Rn_dup_ref dX12_keeps_57, Rm_getfield fl_12_398 dX12_keeps_58, Rn_iconst (v := jI (1)) rfl dX12_keeps_61, Rn_iadd dX12_keeps_62, Rm_putfieldI (ini := false) fl_12_398 rfl rfl dX12_keeps_63, Rn_return rfl dX12_keeps_66, gs12_52 k218, rdM k259 l259, wrM k259 l259, alM k259 l259, gs12_62 k218, rdM k263 l263, wrM k263 l263, alM k263 l263, gs12_63 k218, gs12_64 k218, ps12_63 k218, qI_s, qJ_s, qR_s, qV_s, qX_s, qN_s, qW_s, qF_s, qC_s, Option.bind_some, Option.bind_none, Nat.reduceAdd, Nat.reduceBEq, Nat.reduceEqDiff, lk_nil, lk_cons, lk_pt1, lk_pt2i, isJ_i, isJ_r, isJ_l, gI_i, gJ_i, gR_i, Bool.false_eq_true, if_true, if_false, ite_true, ite_false, ↓reduceIte, len4_0, len4_1, len4_2, len4_3, len4_4, Option.toList_some, Option.toList_none, List.cons_append, List.nil_append, va_rf_s, up_hp, ofI_j, jI_add, jI_sub, jI_mul, jI_neg, jL_add, jL_sub, jL_mul, jI_jL, jL_jI, nar_i, nar_zj, lt_t, lt_f, le_t, le_f, eq_t, eq_f, ez_t, ez_f, lz_t, lz_f, gz_t, gz_f, nz_t, nz_f, pz_t, pz_f, lgc_gt, lgc_lt, lgc_ge, lgc_le, lgc_eq, Lt_t, Lt_f, Le_t, Le_f, Eq_t, Eq_f, dv_j, not_true_eq_false, not_false_eq_true, Int.reduceEq, Int.reduceAdd, Int.reduceSub, Int.reduceMul, Int.reduceNeg, Ez_t, Ez_f, dv_L, false_and, true_and, and_true, and_false, q0, q1, e3, Int.cast_ofNat_Int]
      exact hG
    · have e4 : M 218 63 = 20 := by omega
      rw [show min (M 218 63 + 1) 20 = M 218 63 by omega] at hG
      have e5 : ∀ g, st (setc (st M 218 64 nn) 263 g) 218 63 (M 218 63) = setc (st M 218 64 nn) 263 g := fun g => by
        rw [st_c]
        have : su (setc (st M 218 64 nn) 263 g 218) 63 (M 218 63) = setc (st M 218 64 nn) 263 g 218 := by
          funext i
          rw [su_app]
          split
          · rename_i h; rw [h, e3]
          · rfl
        rw [this, setc_id]
      rw [e5] at hG
      simp (disch := omega) only [Rn_bipush (v := jI (95)) rfl dX12_keeps_16, Rn_icmp_ge (t := 47) rfl dX12_keeps_18, Rm_aload_n (k := 0) rfl dX12_keeps_21, Rm_getfield fl_12_148 dX12_keeps_22, Rn_bipush (v := jI (95)) rfl dX12_keeps_25, Rm_aload_n (k := 0) rfl dX12_keeps_27, Rm_getfield fl_12_558 dX12_keeps_28, Rn_imul dX12_keeps_31, Rm_iload_n (k := 1) rfl dX12_keeps_32, Rn_iadd dX12_keeps_33, Rm_aload_n (k := 0) rfl dX12_keeps_34, Rm_getfield fl_12_136 dX12_keeps_35, Rm_iload_n (k := 1) rfl dX12_keeps_38, Rm_iaload dX12_keeps_39, Rm_iastore dX12_keeps_40, Rm_iinc (nL := 2) rfl dX12_keeps_41, Rn_goto (t := 15) rfl dX12_keeps_44, Rm_aload_n (k := 0) rfl dX12_keeps_47, Rm_getfield fl_12_398 dX12_keeps_48, Rn_bipush (v := jI (20)) rfl dX12_keeps_51, Rn_icmp_ge (t := 66) rfl dX12_keeps_53, Rm_aload_n (k := 0) rfl dX12_keeps_56, Rn_dup_int dX12_keeps_57, Rn_dup_ref dX12_keeps_57, Rm_getfield fl_12_398 dX12_keeps_58, Rn_iconst (v := jI (1)) rfl dX12_keeps_61, Rn_iadd dX12_keeps_62, Rm_putfieldI (ini := false) fl_12_398 rfl rfl dX12_keeps_63, Rn_return rfl dX12_keeps_66, gs12_52 k218, rdM k259 l259, wrM k259 l259, alM k259 l259, gs12_62 k218, rdM k263 l263, wrM k263 l263, alM k263 l263, gs12_63 k218, gs12_64 k218, ps12_63 k218, qI_s, qJ_s, qR_s, qV_s, qX_s, qN_s, qW_s, qF_s, qC_s, Option.bind_some, Option.bind_none, Nat.reduceAdd, Nat.reduceBEq, Nat.reduceEqDiff, lk_nil, lk_cons, lk_pt1, lk_pt2i, isJ_i, isJ_r, isJ_l, gI_i, gJ_i, gR_i, Bool.false_eq_true, if_true, if_false, ite_true, ite_false, ↓reduceIte, len4_0, len4_1, len4_2, len4_3, len4_4, Option.toList_some, Option.toList_none, List.cons_append, List.nil_append, va_rf_s, up_hp, ofI_j, jI_add, jI_sub, jI_mul, jI_neg, jL_add, jL_sub, jL_mul, jI_jL, jL_jI, nar_i, nar_zj, lt_t, lt_f, le_t, le_f, eq_t, eq_f, ez_t, ez_f, lz_t, lz_f, gz_t, gz_f, nz_t, nz_f, pz_t, pz_f, lgc_gt, lgc_lt, lgc_ge, lgc_le, lgc_eq, Lt_t, Lt_f, Le_t, Le_f, Eq_t, Eq_f, dv_j, not_true_eq_false, not_false_eq_true, Int.reduceEq, Int.reduceAdd, Int.reduceSub, Int.reduceMul, Int.reduceNeg, Ez_t, Ez_f, dv_L, false_and, true_and, and_true, and_false, q0, q1, e3, Int.cast_ofNat_Int]
      exact hG
  · exact ⟨by rw [rowF_0, ← st_ne M (a := 218) (b := 263) 64 nn (by omega), setc_id], by simp [Option.bind_some, Option.bind_none, Nat.reduceAdd, Nat.reduceBEq, Nat.reduceEqDiff, lk_nil, lk_cons, lk_pt1, lk_pt2, lk_pt2b, isJ_i, isJ_r, isJ_l, gI_i, gJ_i, gR_i, Bool.false_eq_true, if_true, if_false, ite_true, ite_false, reduceIte, len4_0, len4_1, len4_2, len4_3, len4_4, Option.toList_some, Option.toList_none, List.cons_append, List.nil_append, gf_o, isO_o, pf_o, List.length_cons, List.length_nil, List.getElem?_cons_zero, List.getElem?_cons_succ, List.set_cons_zero, List.set_cons_succ, va_rf_s, up_self, rdi_a, rdi_5, rdi_0, rdi_4, wri_a, rdl_a, wrl_a, rdr_a, wrr_a, aln_0, aln_1, aln_3, aln_4, aln_5, ofI_1, ofI_m1], by simp [Option.bind_some, Option.bind_none, Nat.reduceAdd, Nat.reduceBEq, Nat.reduceEqDiff, lk_nil, lk_cons, lk_pt1, lk_pt2, lk_pt2b, isJ_i, isJ_r, isJ_l, gI_i, gJ_i, gR_i, Bool.false_eq_true, if_true, if_false, ite_true, ite_false, reduceIte, len4_0, len4_1, len4_2, len4_3, len4_4, Option.toList_some, Option.toList_none, List.cons_append, List.nil_append, gf_o, isO_o, pf_o, List.length_cons, List.length_nil, List.getElem?_cons_zero, List.getElem?_cons_succ, List.set_cons_zero, List.set_cons_succ, va_rf_s, up_self, rdi_a, rdi_5, rdi_0, rdi_4, wri_a, rdl_a, wrl_a, rdr_a, wrr_a, aln_0, aln_1, aln_3, aln_4, aln_5, ofI_1, ofI_m1]⟩
theorem HR_keep {T : TT} {s : Ss} {hs : List Ss} (wT : wfT T) (h : HR T M hs) (hS : NR T (M 259) s) : HR T (kpR M) (hsK s hs) := by
  obtain ⟨⟨h1, h2⟩, ⟨n0, n1⟩, h3⟩ := h
  have e1 : kpR M 218 64 = (M 218 64 + 1) % 20 := by unfold kpR; rw [st_self, su_ne _ _ (by omega), setc_ne _ _ (by omega), st_self, su_self]
  have e2 : kpR M 218 63 = min (M 218 63 + 1) 20 := by unfold kpR; rw [st_self, su_self]
  have e3 : kpR M 263 = rowF (95 * ((M 218 64 + 1) % 20)) (M 259) 95 (M 263) := by unfold kpR; rw [st_ne _ _ _ (by omega), setc_self]
  obtain ⟨l1, l2⟩ := hsK_len (s := s) h2
  refine ⟨⟨by rw [e2, h1, l1]; omega, l2⟩, by rw [e1]; omega, fun j x hx => ?_⟩
  obtain ⟨hj, hx⟩ := hsK_get hx
  rw [e1, e3]
  rcases hx with ⟨rfl, rfl⟩ | ⟨hj1, hx⟩
  · rw [show ((M 218 64 + 1) % 20 + 20 - ((0 : Nat) : Int)) % 20 = (M 218 64 + 1) % 20 by omega]
    exact NR_congr wT hS (fun i i0 i1 => rowF_lo i0 (by omega))
  · rw [show ((M 218 64 + 1) % 20 + 20 - (j : Int)) % 20 = (M 218 64 + 20 - ((j - 1 : Nat) : Int)) % 20 by omega]
    exact NR_congr wT (h3 (j - 1) x hx) (fun i i0 i1 => rowF_hi (by omega))
end

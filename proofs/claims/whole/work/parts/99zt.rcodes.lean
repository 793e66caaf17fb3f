/-! a town told: deeds, turn, night: the reference -/
theorem cdM_get {g : Int → Int} : ∀ {cs : List Nat} {i : Int}, (∀ (j : Nat) (x : Nat), cs[j]? = some x → g (i + j) = x) → cdM g i cs := by
  intro cs
  induction cs with
  | nil => intro i _; exact trivial
  | cons c r ih =>
    intro i h
    refine ⟨?_, ih (fun j x hx => ?_)⟩
    · have := h 0 c rfl
      rw [Int.natCast_zero, Int.add_zero] at this
      exact this
    · have := h (j + 1) x hx
      rw [← this]
      congr 1
      omega
section
variable {n z : Nat} {H : Nat → AC} {M : Me} {g : Int → Int} {k e : Nat} {nb : Bool}
/-- all that waits is empty -/
def bgM (M : Me) (wh : Int) : Me := st (st (st (st (st M 218 51 wh) 218 92 0) 218 94 0) 218 95 0) 218 96 0
theorem m_begins {wh : Int} (d : Nat) : X (d + 1) 163 [.ref 218, .int (jI wh)] (n, z, hp H M) = some (none, (n, z, hp H (bgM M wh))) := by
  rw [Xe_X12_begins]
  simp (disch := omega) only [Rm_aload_n (k := 0) rfl dX12_begins_0, Rm_iload_n (k := 1) rfl dX12_begins_1, Rm_putfieldI (ini := false) fl_12_297 rfl rfl dX12_begins_2, Rm_aload_n (k := 0) rfl dX12_begins_5, Rn_iconst (v := jI (0)) rfl dX12_begins_6, Rm_putfieldI (ini := false) fl_12_341 rfl rfl dX12_begins_7, Rm_aload_n (k := 0) rfl dX12_begins_10, Rn_iconst (v := jI (0)) rfl dX12_begins_11, Rm_putfieldI (ini := false) fl_12_344 rfl rfl dX12_begins_12, Rm_aload_n (k := 0) rfl dX12_begins_15, Rn_iconst (v := jI (0)) rfl dX12_begins_16, Rm_putfieldI (ini := false) fl_12_347 rfl rfl dX12_begins_17, Rm_aload_n (k := 0) rfl dX12_begins_20, Rn_iconst (v := jI (0)) rfl dX12_begins_21, Rm_putfieldI (ini := false) fl_12_350 rfl rfl dX12_begins_22, Rn_return rfl dX12_begins_25, ps12_51 k218, ps12_92 k218, ps12_94 k218, ps12_95 k218, ps12_96 k218, qI_s, qJ_s, qR_s, qV_s, qX_s, qN_s, qW_s, qF_s, qC_s, Option.bind_some, Option.bind_none, Nat.reduceAdd, Nat.reduceBEq, Nat.reduceEqDiff, lk_nil, lk_cons, lk_pt1, lk_pt2i, isJ_i, isJ_r, isJ_l, gI_i, gJ_i, gR_i, Bool.false_eq_true, if_true, if_false, ite_true, ite_false, ↓reduceIte, len4_0, len4_1, len4_2, len4_3, len4_4, Option.toList_some, Option.toList_none, List.cons_append, List.nil_append, va_rf_s, up_hp, ofI_j, jI_add, jI_sub, jI_mul, jI_neg, jL_add, jL_sub, jL_mul, jI_jL, jL_jI, nar_i, nar_zj, lt_t, lt_f, le_t, le_f, eq_t, eq_f, ez_t, ez_f, lz_t, lz_f, gz_t, gz_f, nz_t, nz_f, pz_t, pz_f, lgc_gt, lgc_lt, lgc_ge, lgc_le, lgc_eq, Lt_t, Lt_f, Le_t, Le_f, Eq_t, Eq_f, dv_j, not_true_eq_false, not_false_eq_true, Int.reduceEq, Int.reduceAdd, Int.reduceSub, Int.reduceMul, Int.reduceNeg, Ez_t, Ez_f, dv_L, false_and, true_and, and_true, and_false]
  rfl
theorem bgM_ne (M : Me) (wh : Int) {b : Nat} (h : ¬ b = 218) : bgM M wh b = M b := by
  unfold bgM
  rw [st_ne _ _ _ h, st_ne _ _ _ h, st_ne _ _ _ h, st_ne _ _ _ h, st_ne _ _ _ h]
theorem bgM_f (M : Me) (wh : Int) {i : Int} (h : ¬ (i = 51 ∨ i = 92 ∨ i = 94 ∨ i = 95 ∨ i = 96)) : bgM M wh 218 i = M 218 i := by
  unfold bgM
  rw [st_self, su_ne _ _ (by omega), st_self, su_ne _ _ (by omega), st_self, su_ne _ _ (by omega), st_self, su_ne _ _ (by omega), st_self, su_ne _ _ (by omega)]
theorem bgM_QS (M : Me) (wh : Nat) : QS [] [] 0 0 wh (bgM M wh) := by
  have f94 : bgM M wh 218 94 = 0 := by unfold bgM; rw [st_self, su_ne _ _ (by omega), st_self, su_ne _ _ (by omega), st_self, su_self]
  have f92 : bgM M wh 218 92 = 0 := by unfold bgM; rw [st_self, su_ne _ _ (by omega), st_self, su_ne _ _ (by omega), st_self, su_ne _ _ (by omega), st_self, su_self]
  refine ⟨⟨f94, fun j x h => by simp [il] at h⟩, ⟨f92, fun j x h => by simp [il] at h⟩, ?_, ?_, ?_⟩
  · unfold bgM; rw [st_self, su_ne _ _ (by omega), st_self, su_self]; rfl
  · unfold bgM; rw [st_self, su_self]; rfl
  · unfold bgM; rw [st_self, su_ne _ _ (by omega), st_self, su_ne _ _ (by omega), st_self, su_ne _ _ (by omega), st_self, su_ne _ _ (by omega), st_self, su_self]
theorem KW_bg (M : Me) (wh : Int) : KW M (bgM M wh) := KW_st (KW_st (KW_st (KW_st (KW_st (KW_refl M) (okW_218 (by decide))) (okW_218 (by decide))) (okW_218 (by decide))) (okW_218 (by decide))) (okW_218 (by decide))
theorem PQ_bg (h : PQ g k e nb M) (wh : Int) : PQ g k e nb (bgM M wh) := PQ_B h (bgM_ne M wh (by omega)) (fun i hi => bgM_f M wh (by omega))
theorem m_keepsCodes1 {w : Int} (h : ¬ M 218 5 = 0) (h0 : 0 ≤ M 218 5) (h1 : M 218 5 < 100) (d : Nat) : X (d + 1) 162 [.ref 218, .int (jI w)] (n, z, hp H M) = some (none, (n, z, hp H M)) := by
  rw [Xe_X12_keepsCodes]
  simp (disch := omega) only [Rm_aload_n (k := 0) rfl dX12_keepsCodes_0, Rm_getfield fl_12_242 dX12_keepsCodes_1, Rn_if_eq (t := 8) rfl dX12_keepsCodes_4, Rn_return rfl dX12_keepsCodes_7, gs12_5 k218, qI_s, qJ_s, qR_s, qV_s, qX_s, qN_s, qW_s, qF_s, qC_s, Option.bind_some, Option.bind_none, Nat.reduceAdd, Nat.reduceBEq, Nat.reduceEqDiff, lk_nil, lk_cons, lk_pt1, lk_pt2i, isJ_i, isJ_r, isJ_l, gI_i, gJ_i, gR_i, Bool.false_eq_true, if_true, if_false, ite_true, ite_false, ↓reduceIte, len4_0, len4_1, len4_2, len4_3, len4_4, Option.toList_some, Option.toList_none, List.cons_append, List.nil_append, va_rf_s, up_hp, ofI_j, jI_add, jI_sub, jI_mul, jI_neg, jL_add, jL_sub, jL_mul, jI_jL, jL_jI, nar_i, nar_zj, lt_t, lt_f, le_t, le_f, eq_t, eq_f, ez_t, ez_f, lz_t, lz_f, gz_t, gz_f, nz_t, nz_f, pz_t, pz_f, lgc_gt, lgc_lt, lgc_ge, lgc_le, lgc_eq, Lt_t, Lt_f, Le_t, Le_f, Eq_t, Eq_f, dv_j, not_true_eq_false, not_false_eq_true, Int.reduceEq, Int.reduceAdd, Int.reduceSub, Int.reduceMul, Int.reduceNeg, Ez_t, Ez_f, dv_L, false_and, true_and, and_true, and_false]
set_option maxHeartbeats 4000000 in
theorem m_keepsCodes {w : Int} {s op b wh : Nat} {cs : List Nat} (w0 : 0 ≤ w) (w1 : w < 8) (h5 : M 218 5 = 0) (hQ : QS [] cs op b wh M) (hs : M 218 49 = s) (hl : s + cs.length ≤ 1600) (d : Nat) : ∃ M' : Me, X (d + 1) 162 [.ref 218, .int (jI w)] (n, z, hp H M) = some (none, (n, z, hp H M')) ∧ (∀ b, ¬ (b = 218 ∨ b = 256 ∨ b = 257 ∨ b = 258) → M' b = M b) ∧ (∀ i, ¬ i = 49 → M' 218 i = M 218 i) ∧ M' 218 49 = ((s + cs.length : Nat) : Int) ∧ M' 256 = su (M 256) w s ∧ M' 257 = su (M 257) w ((s + cs.length : Nat) : Int) ∧ (∀ i : Int, (i < s ∨ 1600 ≤ i) → M' 258 i = M 258 i) ∧ cdM (M' 258) s cs := by
  refine ex_of fun G hG => ?_
  have y92 : M 218 92 = (cs.length : Nat) := by rw [hQ.2.1.1, il_len]
  have hcd : cdM (rowF s (M 288) cs.length (M 258)) s cs := cdM_get (fun j x hx => by
    have hj : j < cs.length := by
      rcases Nat.lt_or_ge j cs.length with q | q
      · exact q
      · rw [List.getElem?_eq_none q] at hx; cases hx
    rw [rowF_lo (by omega) (by omega)]
    exact hQ.2.1.2 j x (by unfold il; rw [List.getElem?_map, hx]; rfl))
  rw [Xe_X12_keepsCodes]
  simp (disch := omega) only [Rm_aload_n (k := 0) rfl dX12_keepsCodes_0, Rm_getfield fl_12_242 dX12_keepsCodes_1, Rn_if_eq (t := 8) rfl dX12_keepsCodes_4, Rn_return rfl dX12_keepsCodes_7, Rm_aload_n (k := 0) rfl dX12_keepsCodes_8, Rm_getfield fl_12_127 dX12_keepsCodes_9, Rm_iload_n (k := 1) rfl dX12_keepsCodes_12, Rm_aload_n (k := 0) rfl dX12_keepsCodes_13, Rm_getfield fl_12_338 dX12_keepsCodes_14, Rm_iastore dX12_keepsCodes_17, Rn_iconst (v := jI (0)) rfl dX12_keepsCodes_18, Rn_istore_n (k := 2) (nL := 3) rfl rfl dX12_keepsCodes_19, gs12_5 k218, gs12_46 k218, rdM k256 l256, wrM k256 l256, alM k256 l256, gs12_49 k218, h5, hs, qI_s, qJ_s, qR_s, qV_s, qX_s, qN_s, qW_s, qF_s, qC_s, Option.bind_some, Option.bind_none, Nat.reduceAdd, Nat.reduceBEq, Nat.reduceEqDiff, lk_nil, lk_cons, lk_pt1, lk_pt2i, isJ_i, isJ_r, isJ_l, gI_i, gJ_i, gR_i, Bool.false_eq_true, if_true, if_false, ite_true, ite_false, ↓reduceIte, len4_0, len4_1, len4_2, len4_3, len4_4, Option.toList_some, Option.toList_none, List.cons_append, List.nil_append, va_rf_s, up_hp, ofI_j, jI_add, jI_sub, jI_mul, jI_neg, jL_add, jL_sub, jL_mul, jI_jL, jL_jI, nar_i, nar_zj, lt_t, lt_f, le_t, le_f, eq_t, eq_f, ez_t, ez_f, lz_t, lz_f, gz_t, gz_f, nz_t, nz_f, pz_t, pz_f, lgc_gt, lgc_lt, lgc_ge, lgc_le, lgc_eq, Lt_t, Lt_f, Le_t, Le_f, Eq_t, Eq_f, dv_j, not_true_eq_false, not_false_eq_true, Int.reduceEq, Int.reduceAdd, Int.reduceSub, Int.reduceMul, Int.reduceNeg, Ez_t, Ez_f, dv_L, false_and, true_and, and_true, and_false]
  refine Rn_for cs.length (fun j l1 M1 => ((∀ b, ¬ (b = 218 ∨ b = 256 ∨ b = 258) → M1 b = M b) ∧ (∀ i, ¬ i = 49 → M1 218 i = M 218 i) ∧ M1 218 49 = (s : Int) + j ∧ M1 256 = su (M 256) w s ∧ M1 258 = rowF s (M 288) j (M 258)) ∧ lk l1 0 = some (.ref 218) ∧ lk l1 1 = some (.int (jI w)) ∧ lk l1 2 = some (.int (jI j))) G ?_ ?_ 0 (Nat.zero_le _) _ _ ?_
  · rintro j hj l1 M1 ⟨⟨f1, f2, f3, f4, f5⟩, q0, q1, q2⟩ ih
    have z92 : M1 218 92 = (cs.length : Nat) := by rw [f2 92 (by omega)]; exact y92
    have z288 : M1 288 = M 288 := f1 288 (by omega)
    have x1 : ∀ i v, st M1 258 i v 218 = M1 218 := fun i v => st_ne _ _ _ (by omega)
    rw [Rm_iload_n (k := 2) rfl dX12_keepsCodes_20]
    simp (disch := omega) only [Rm_aload_n (k := 0) rfl dX12_keepsCodes_21, Rm_getfield fl_12_341 dX12_keepsCodes_22, Rn_icmp_ge (t := 59) rfl dX12_keepsCodes_25, Rm_aload_n (k := 0) rfl dX12_keepsCodes_28, Rm_getfield fl_12_133 dX12_keepsCodes_29, Rm_aload_n (k := 0) rfl dX12_keepsCodes_32, Rm_getfield fl_12_338 dX12_keepsCodes_33, Rm_aload_n (k := 0) rfl dX12_keepsCodes_36, Rm_getfield fl_12_227 dX12_keepsCodes_37, Rm_iload_n (k := 2) rfl dX12_keepsCodes_40, Rm_iaload dX12_keepsCodes_41, Rm_iastore dX12_keepsCodes_42, Rm_aload_n (k := 0) rfl dX12_keepsCodes_43, Rn_dup_int dX12_keepsCodes_44, Rn_dup_ref dX12_keepsCodes_44, Rm_getfield fl_12_338 dX12_keepsCodes_45, Rn_iconst (v := jI (1)) rfl dX12_keepsCodes_48, Rn_iadd dX12_keepsCodes_49, Rm_putfieldI (ini := false) fl_12_338 rfl rfl dX12_keepsCodes_50, Rm_iinc (nL := 3) rfl dX12_keepsCodes_53, Rn_goto (t := 20) rfl dX12_keepsCodes_56, gs12_48 k218, rdM k258 l258, wrM k258 l258, alM k258 l258, gs12_49 k218, gs12_91 k218, rdM k288 l288, wrM k288 l288, alM k288 l288, gs12_92 k218, ps12_49 k218, q0, q1, q2, z92, z288, f3, x1, qI_s, qJ_s, qR_s, qV_s, qX_s, qN_s, qW_s, qF_s, qC_s, Option.bind_some, Option.bind_none, Nat.reduceAdd, Nat.reduceBEq, Nat.reduceEqDiff, lk_nil, lk_cons, lk_pt1, lk_pt2i, isJ_i, isJ_r, isJ_l, gI_i, gJ_i, gR_i, Bool.false_eq_true, if_true, if_false, ite_true, ite_false, ↓reduceIte, len4_0, len4_1, len4_2, len4_3, len4_4, Option.toList_some, Option.toList_none, List.cons_append, List.nil_append, va_rf_s, up_hp, ofI_j, jI_add, jI_sub, jI_mul, jI_neg, jL_add, jL_sub, jL_mul, jI_jL, jL_jI, nar_i, nar_zj, lt_t, lt_f, le_t, le_f, eq_t, eq_f, ez_t, ez_f, lz_t, lz_f, gz_t, gz_f, nz_t, nz_f, pz_t, pz_f, lgc_gt, lgc_lt, lgc_ge, lgc_le, lgc_eq, Lt_t, Lt_f, Le_t, Le_f, Eq_t, Eq_f, dv_j, not_true_eq_false, not_false_eq_true, Int.reduceEq, Int.reduceAdd, Int.reduceSub, Int.reduceMul, Int.reduceNeg, Ez_t, Ez_f, dv_L, false_and, true_and, and_true, and_false]
    refine ih _ _ ⟨⟨fun b hb => by rw [st_ne _ _ _ (by omega), st_ne _ _ _ (by omega)]; exact f1 b hb, fun i hi => by rw [st_self, su_ne _ _ hi, x1]; exact f2 i hi, by rw [st_self, su_self]; omega, by rw [st_ne _ _ _ (by omega), st_ne _ _ _ (by omega)]; exact f4, ?_⟩, by simp [Option.bind_some, Option.bind_none, Nat.reduceAdd, Nat.reduceBEq, Nat.reduceEqDiff, lk_nil, lk_cons, lk_pt1, lk_pt2, lk_pt2b, isJ_i, isJ_r, isJ_l, gI_i, gJ_i, gR_i, Bool.false_eq_true, if_true, if_false, ite_true, ite_false, reduceIte, len4_0, len4_1, len4_2, len4_3, len4_4, Option.toList_some, Option.toList_none, List.cons_append, List.nil_append, gf_o, isO_o, pf_o, List.length_cons, List.length_nil, List.getElem?_cons_zero, List.getElem?_cons_succ, List.set_cons_zero, List.set_cons_succ, va_rf_s, up_self, rdi_a, rdi_5, rdi_0, rdi_4, wri_a, rdl_a, wrl_a, rdr_a, wrr_a, aln_0, aln_1, aln_3, aln_4, aln_5, ofI_1, ofI_m1, q0], by simp [Option.bind_some, Option.bind_none, Nat.reduceAdd, Nat.reduceBEq, Nat.reduceEqDiff, lk_nil, lk_cons, lk_pt1, lk_pt2, lk_pt2b, isJ_i, isJ_r, isJ_l, gI_i, gJ_i, gR_i, Bool.false_eq_true, if_true, if_false, ite_true, ite_false, reduceIte, len4_0, len4_1, len4_2, len4_3, len4_4, Option.toList_some, Option.toList_none, List.cons_append, List.nil_append, gf_o, isO_o, pf_o, List.length_cons, List.length_nil, List.getElem?_cons_zero, List.getElem?_cons_succ, List.set_cons_zero, List.set_cons_succ, va_rf_s, up_self, rdi_a, rdi_5, rdi_0, rdi_4, wri_a, rdl_a, wrl_a, rdr_a, wrr_a, aln_0, aln_1, aln_3, aln_4, aln_5, ofI_1, ofI_m1, q1], by simp [Option.bind_some, Option.bind_none, Nat.reduceAdd, Nat.reduceBEq, Nat.reduceEqDiff, lk_nil, lk_cons, lk_pt1, lk_pt2, lk_pt2b, isJ_i, isJ_r, isJ_l, gI_i, gJ_i, gR_i, Bool.false_eq_true, if_true, if_false, ite_true, ite_false, reduceIte, len4_0, len4_1, len4_2, len4_3, len4_4, Option.toList_some, Option.toList_none, List.cons_append, List.nil_append, gf_o, isO_o, pf_o, List.length_cons, List.length_nil, List.getElem?_cons_zero, List.getElem?_cons_succ, List.set_cons_zero, List.set_cons_succ, va_rf_s, up_self, rdi_a, rdi_5, rdi_0, rdi_4, wri_a, rdl_a, wrl_a, rdr_a, wrr_a, aln_0, aln_1, aln_3, aln_4, aln_5, ofI_1, ofI_m1]⟩
    rw [st_ne _ _ _ (by omega), st_self, f5]
    exact rowF_su (s : Int) (M 288) (M 258) j
  · rintro l1 M1 ⟨⟨f1, f2, f3, f4, f5⟩, q0, q1, q2⟩
    have z92 : M1 218 92 = (cs.length : Nat) := by rw [f2 92 (by omega)]; exact y92
    have r := hG (st M1 257 w ((s : Int) + cs.length)) ⟨fun b hb => by rw [st_ne _ _ _ (by omega)]; exact f1 b (by omega), fun i hi => by rw [st_ne _ _ _ (by omega)]; exact f2 i hi, by rw [st_ne _ _ _ (by omega), f3]; omega, by rw [st_ne _ _ _ (by omega)]; exact f4, by rw [st_self, f1 257 (by omega)]; congr 1, fun i hi => by rw [st_ne _ _ _ (by omega), f5, rowF_hi (by omega)], by rw [st_ne _ _ _ (by omega), f5]; exact hcd⟩
    rw [Rm_iload_n (k := 2) rfl dX12_keepsCodes_20]
    simp (disch := omega) only [Rm_aload_n (k := 0) rfl dX12_keepsCodes_21, Rm_getfield fl_12_341 dX12_keepsCodes_22, Rn_icmp_ge (t := 59) rfl dX12_keepsCodes_25, gs12_92 k218, Rm_aload_n (k := 0) rfl dX12_keepsCodes_59, Rm_getfield fl_12_130 dX12_keepsCodes_60, Rm_iload_n (k := 1) rfl dX12_keepsCodes_63, Rm_aload_n (k := 0) rfl dX12_keepsCodes_64, Rm_getfield fl_12_338 dX12_keepsCodes_65, Rm_iastore dX12_keepsCodes_68, Rn_return rfl dX12_keepsCodes_69, gs12_47 k218, rdM k257 l257, wrM k257 l257, alM k257 l257, gs12_49 k218, q0, q1, q2, z92, f3, qI_s, qJ_s, qR_s, qV_s, qX_s, qN_s, qW_s, qF_s, qC_s, Option.bind_some, Option.bind_none, Nat.reduceAdd, Nat.reduceBEq, Nat.reduceEqDiff, lk_nil, lk_cons, lk_pt1, lk_pt2i, isJ_i, isJ_r, isJ_l, gI_i, gJ_i, gR_i, Bool.false_eq_true, if_true, if_false, ite_true, ite_false, ↓reduceIte, len4_0, len4_1, len4_2, len4_3, len4_4, Option.toList_some, Option.toList_none, List.cons_append, List.nil_append, va_rf_s, up_hp, ofI_j, jI_add, jI_sub, jI_mul, jI_neg, jL_add, jL_sub, jL_mul, jI_jL, jL_jI, nar_i, nar_zj, lt_t, lt_f, le_t, le_f, eq_t, eq_f, ez_t, ez_f, lz_t, lz_f, gz_t, gz_f, nz_t, nz_f, pz_t, pz_f, lgc_gt, lgc_lt, lgc_ge, lgc_le, lgc_eq, Lt_t, Lt_f, Le_t, Le_f, Eq_t, Eq_f, dv_j, not_true_eq_false, not_false_eq_true, Int.reduceEq, Int.reduceAdd, Int.reduceSub, Int.reduceMul, Int.reduceNeg, Ez_t, Ez_f, dv_L, false_and, true_and, and_true, and_false]
    exact r
  · exact ⟨⟨fun b hb => st_ne _ _ _ (by omega), fun i hi => by rw [st_ne _ _ _ (by omega)], by rw [st_ne _ _ _ (by omega), hs]; simp, st_self _ _ _ _, by rw [rowF_0, st_ne _ _ _ (by omega)]⟩, by simp [Option.bind_some, Option.bind_none, Nat.reduceAdd, Nat.reduceBEq, Nat.reduceEqDiff, lk_nil, lk_cons, lk_pt1, lk_pt2, lk_pt2b, isJ_i, isJ_r, isJ_l, gI_i, gJ_i, gR_i, Bool.false_eq_true, if_true, if_false, ite_true, ite_false, reduceIte, len4_0, len4_1, len4_2, len4_3, len4_4, Option.toList_some, Option.toList_none, List.cons_append, List.nil_append, gf_o, isO_o, pf_o, List.length_cons, List.length_nil, List.getElem?_cons_zero, List.getElem?_cons_succ, List.set_cons_zero, List.set_cons_succ, va_rf_s, up_self, rdi_a, rdi_5, rdi_0, rdi_4, wri_a, rdl_a, wrl_a, rdr_a, wrr_a, aln_0, aln_1, aln_3, aln_4, aln_5, ofI_1, ofI_m1], by simp [Option.bind_some, Option.bind_none, Nat.reduceAdd, Nat.reduceBEq, Nat.reduceEqDiff, lk_nil, lk_cons, lk_pt1, lk_pt2, lk_pt2b, isJ_i, isJ_r, isJ_l, gI_i, gJ_i, gR_i, Bool.false_eq_true, if_true, if_false, ite_true, ite_false, reduceIte, len4_0, len4_1, len4_2, len4_3, len4_4, Option.toList_some, Option.toList_none, List.cons_append, List.nil_append, gf_o, isO_o, pf_o, List.length_cons, List.length_nil, List.getElem?_cons_zero, List.getElem?_cons_succ, List.set_cons_zero, List.set_cons_succ, va_rf_s, up_self, rdi_a, rdi_5, rdi_0, rdi_4, wri_a, rdl_a, wrl_a, rdr_a, wrr_a, aln_0, aln_1, aln_3, aln_4, aln_5, ofI_1, ofI_m1], by simp [Option.bind_some, Option.bind_none, Nat.reduceAdd, Nat.reduceBEq, Nat.reduceEqDiff, lk_nil, lk_cons, lk_pt1, lk_pt2, lk_pt2b, isJ_i, isJ_r, isJ_l, gI_i, gJ_i, gR_i, Bool.false_eq_true, if_true, if_false, ite_true, ite_false, reduceIte, len4_0, len4_1, len4_2, len4_3, len4_4, Option.toList_some, Option.toList_none, List.cons_append, List.nil_append, gf_o, isO_o, pf_o, List.length_cons, List.length_nil, List.getElem?_cons_zero, List.getElem?_cons_succ, List.set_cons_zero, List.set_cons_succ, va_rf_s, up_self, rdi_a, rdi_5, rdi_0, rdi_4, wri_a, rdl_a, wrl_a, rdr_a, wrr_a, aln_0, aln_1, aln_3, aln_4, aln_5, ofI_1, ofI_m1]⟩
theorem RC0_old {M' : Me} {w u : Int} {cs : List Nat} {s s' : Nat} {v v' : Int} (h : RC0 M w cs s) (hw : ¬ w = u) (hs : s ≤ s') (h1 : M' 256 = su (M 256) u v) (h2 : M' 257 = su (M 257) u v') (h3 : ∀ i : Int, i < s → M' 258 i = M 258 i) : RC0 M' w cs s' := by
  unfold RC0 at h ⊢
  rw [h1, h2, su_ne _ _ hw, su_ne _ _ hw]
  rcases h with ⟨a, b⟩ | ⟨a, b, c, d, e⟩
  · exact Or.inl ⟨a, b⟩
  · exact Or.inr ⟨a, b, c, by omega, cdM_congr (fun j j0 j1 => h3 j (by rw [List.length_map] at j1; omega)) e⟩
theorem RC0_new {M' : Me} {u : Int} {cs : List Nat} {s : Nat} (hne : ¬ cs = []) (h1 : M' 256 = su (M 256) u s) (h2 : M' 257 = su (M 257) u ((s + (cs.map qc).length : Nat) : Int)) (h3 : cdM (M' 258) s (cs.map qc)) : RC0 M' u cs (s + (cs.map qc).length) := by
  rw [List.length_map] at h2 ⊢
  unfold RC0
  rw [h1, h2, su_self, su_self]
  exact Or.inr ⟨hne, by omega, by omega, by omega, h3⟩
set_option maxHeartbeats 8000000 in
theorem m_sumIsTold {s j : Nat} {w : Int} {B : BT} (hjw : (j = 6 ∧ w = 0) ∨ (j = 7 ∧ w = 1)) (hb : Byt g k) (hk : k ≤ 1600) (he : e ≤ k) (hj : tkJ g k e nb = 1) (hP : PQ g k (tkQ g k e) (nxB g k e nb) M) (hWK : WK M) (hC : CNR M B) (hD : BDR M B s) (hB : bdB B) (hs : s ≤ e) (d : Nat) : ∃ M' : Me, X (d + 10) 164 [.ref 218, .int (jI w), .int (jI (skp g k e : Nat))] (n, z, hp H M) = some (none, (n, z, hp H M')) ∧ KW M M' ∧ PtR g k (ocF g k j (e, nb) B) M' := by
  refine ex_of fun G hG => ?_
  obtain ⟨w1, w2, w3, w4, w5⟩ := id hB
  have hn := nx_P (g := g) (k := k) (p := (e, nb)) he hj (by omega) (by omega)
  have hn1 : e < tkQ g k e := hn.1
  have hnQ : tkQ g k e ≤ k := hn.2
  have y5 : M 218 5 = 0 := hP.2.2.2.2.1
  have hRC : RC0 M w (tc B.1 j) s := by
    rcases hjw with ⟨h1, h2⟩ | ⟨h1, h2⟩
    · rw [h1, h2]; exact hD.2.2.2.1.2.1
    · rw [h1, h2]; exact hD.2.2.2.1.2.2.1
  have hw01 : 0 ≤ w ∧ w < 2 := by omega
  rw [Xe_X12_sumIsTold]
  unfold ocF at hG
  by_cases q : tc B.1 j = []
  · rw [if_neg (fun h => h q), show nxP g k (e, nb) = (tkQ g k e, nxB g k e nb) from rfl] at hG
    have y256 : M 256 w = -1 := by
      rcases hRC with ⟨-, h⟩ | ⟨h, -⟩
      · exact h
      · exact absurd q h
    have eb := m_begins (n := n) (z := z) (H := H) (M := M) (wh := 0) (d + 8)
    have hQb := bgM_QS M 0
    rw [show (((0 : Nat)) : Int) = 0 from rfl] at hQb
    have hev := evX_eq (g := g) (k := k) (wh := 0) (tag := 5) (p := (tkQ g k e, nxB g k e nb)) (by omega) hnQ
    obtain ⟨M2, e2, K2, h2⟩ := r_sum (n := n) (z := z) (H := H) (W0 := []) hb hk (by omega) (fun x hx => absurd hx (by simp)) hnQ (by omega) (by simp) (PQ_bg hP 0) hQb (WK_W hWK (KW_bg M 0)) hev d
    have KW2 : KW M M2 := KW_trans (KW_bg M 0) (KW_B K2)
    rcases hx : evX g k 0 5 (tkQ g k e, nxB g k e nb) with ⟨e', nb', cs⟩ | x
    · rw [hx] at h2 hG
      obtain ⟨hP2, hQ2, hWK2⟩ := h2
      rw [List.nil_append] at hQ2
      have hl := evX_len (by omega) (p := (tkQ g k e, nxB g k e nb)) hnQ hx
      dsimp only at hl
      have hty := evX_ty (Or.inr rfl) (p := (tkQ g k e, nxB g k e nb)) hnQ hx
      have F2 : ∀ b, ¬ (b = 218 ∨ b = 288 ∨ b = 289) → M2 b = M b := fun b hb => by rw [K2.1 b hb, bgM_ne _ _ (by omega)]
      have s2 : M2 218 49 = (s : Int) := by rw [K2.2 49 (by omega), bgM_f _ _ (by omega)]; exact hD.2.2.2.1.1
      obtain ⟨M3, e3, g1, g2, g3, g4, g5, g6, g7⟩ := m_keepsCodes (n := n) (z := z) (H := H) (w := w) (by omega) (by omega) hP2.2.2.2.2.1 hQ2 s2 (by rw [List.length_map]; omega) (d + 8)
      rw [F2 256 (by omega)] at g4
      rw [F2 257 (by omega)] at g5
      have KW3 : KW M M3 := KW_trans KW2 (fun b i hb => by
        by_cases q1 : b = 218
        · subst q1; exact g2 i (fun hi => hb (okW_218 (by subst hi; decide)))
        · by_cases q2 : b = 256
          · subst q2
            rw [g4, F2 256 (by omega)]
            exact su_ne _ _ (fun hi => hb (okW_256 (by omega)))
          · by_cases q3 : b = 257
            · subst q3
              rw [g5, F2 257 (by omega)]
              exact su_ne _ _ (fun hi => hb (okW_257 (by omega)))
            · by_cases q4 : b = 258
              · subst q4
                exact g6 i (by
                  rcases Int.lt_or_le i 1600 with h | h
                  · exact absurd (okW_258 h) hb
                  · exact Or.inr h)
              · rw [g1 b (by rintro (h | h | h | h) <;> contradiction)])
      have r := hG M3 ⟨KW3, by
        show PQ g k e' nb' M3 ∧ CNR M3 (setC j cs B) ∧ ∃ s, s ≤ e' ∧ BDR M3 (setC j cs B) s
        refine ⟨PQ_B hP2 (g1 219 (by omega)) (fun i hi => g2 i (by omega)), CNR_keep (B := B) hC (by rw [g1 250 (by omega), F2 250 (by omega)]) (by rw [g1 251 (by omega), F2 251 (by omega)]), s + (cs.map qc).length, by rw [List.length_map]; omega, ?_⟩
        obtain ⟨d1, d2, d3, ⟨d41, d42, d43, d44⟩, d5⟩ := hD
        have g6' : ∀ i : Int, i < s → M3 258 i = M 258 i := fun i hi => by rw [g6 i (Or.inl hi), F2 258 (by omega)]
        have hnew : RC0 M3 w cs (s + (cs.map qc).length) := RC0_new (M := M) (ty_ne hty) g4 g5 g7
        refine ⟨?_, ?_, ?_, ⟨g3, ?_, ?_, fun d hd => ?_⟩, ?_⟩
        · rw [g1 252 (by omega), F2 252 (by omega)]; exact d1
        · rw [g1 253 (by omega), F2 253 (by omega)]; exact d2
        · rw [g1 254 (by omega), F2 254 (by omega)]; exact d3
        · show RC0 M3 0 (if 6 = j then cs else tc B.1 6) _
          rcases hjw with ⟨h1, h2⟩ | ⟨h1, h2⟩
          · rw [if_pos h1.symm, ← h2]; exact hnew
          · rw [if_neg (by omega)]; exact RC0_old d42 (by omega) (by omega) g4 g5 g6'
        · show RC0 M3 1 (if 7 = j then cs else tc B.1 7) _
          rcases hjw with ⟨h1, h2⟩ | ⟨h1, h2⟩
          · rw [if_neg (by omega)]; exact RC0_old d43 (by omega) (by omega) g4 g5 g6'
          · rw [if_pos h1.symm, ← h2]; exact hnew
        · have hd' : d < nd B.1 := hd
          show RC0 M3 (2 + d) (if d = j then cs else tc B.1 d) _
          rw [if_neg (by omega)]
          exact RC0_old (d44 d hd') (by omega) (by omega) g4 g5 g6'
        · rw [g1 255 (by omega), F2 255 (by omega)]; exact d5⟩
      simp (disch := omega) only [Rm_aload_n (k := 0) rfl dX12_sumIsTold_0, Rm_getfield fl_12_242 dX12_sumIsTold_1, Rn_if_ne (t := 23) rfl dX12_sumIsTold_4, Rm_aload_n (k := 0) rfl dX12_sumIsTold_7, Rm_getfield fl_12_127 dX12_sumIsTold_8, Rm_iload_n (k := 1) rfl dX12_sumIsTold_11, Rm_iaload dX12_sumIsTold_12, Rn_iconst (v := jI (-1)) rfl dX12_sumIsTold_13, Rn_icmp_eq (t := 23) rfl dX12_sumIsTold_14, Rm_aload_n (k := 0) rfl dX12_sumIsTold_17, Rn_iconst (v := jI (5)) rfl dX12_sumIsTold_18, Rm_iload_n (k := 2) rfl dX12_sumIsTold_19, Rm_inV2 (d := dX12_sumIsTold_20) (hy := mo_139) (h13 := rfl) ml_12_272 rfl, Rm_aload_n (k := 0) rfl dX12_sumIsTold_23, Rm_getfield fl_12_242 dX12_sumIsTold_24, Rn_if_eq (t := 31) rfl dX12_sumIsTold_27, Rn_return rfl dX12_sumIsTold_30, Rm_aload_n (k := 0) rfl dX12_sumIsTold_31, Rn_iconst (v := jI (0)) rfl dX12_sumIsTold_32, Rm_inV1 (d := dX12_sumIsTold_33) (hy := mo_163) (h13 := rfl) ml_12_353 rfl, Rm_aload_n (k := 0) rfl dX12_sumIsTold_36, Rm_inV0 (d := dX12_sumIsTold_37) (hy := mo_251) (h13 := rfl) ml_12_356 rfl, Rm_aload_n (k := 0) rfl dX12_sumIsTold_40, Rm_iload_n (k := 1) rfl dX12_sumIsTold_41, Rm_inV1 (d := dX12_sumIsTold_42) (hy := mo_162) (h13 := rfl) ml_12_359 rfl, Rn_return rfl dX12_sumIsTold_45, gs12_5 k218, gs12_46 k218, rdM k256 l256, wrM k256 l256, alM k256 l256, io12 k218, io12 k218, y5, y256, eb, e2, e3, qI_s, qJ_s, qR_s, qV_s, qX_s, qN_s, qW_s, qF_s, qC_s, Option.bind_some, Option.bind_none, Nat.reduceAdd, Nat.reduceBEq, Nat.reduceEqDiff, lk_nil, lk_cons, lk_pt1, lk_pt2i, isJ_i, isJ_r, isJ_l, gI_i, gJ_i, gR_i, Bool.false_eq_true, if_true, if_false, ite_true, ite_false, ↓reduceIte, len4_0, len4_1, len4_2, len4_3, len4_4, Option.toList_some, Option.toList_none, List.cons_append, List.nil_append, va_rf_s, up_hp, ofI_j, jI_add, jI_sub, jI_mul, jI_neg, jL_add, jL_sub, jL_mul, jI_jL, jL_jI, nar_i, nar_zj, lt_t, lt_f, le_t, le_f, eq_t, eq_f, ez_t, ez_f, lz_t, lz_f, gz_t, gz_f, nz_t, nz_f, pz_t, pz_f, lgc_gt, lgc_lt, lgc_ge, lgc_le, lgc_eq, Lt_t, Lt_f, Le_t, Le_f, Eq_t, Eq_f, dv_j, not_true_eq_false, not_false_eq_true, Int.reduceEq, Int.reduceAdd, Int.reduceSub, Int.reduceMul, Int.reduceNeg, Ez_t, Ez_f, dv_L, false_and, true_and, and_true, and_false]
      exact r
    · rw [hx] at h2 hG
      obtain ⟨fa, hfl, -⟩ := h2
      have z5 : M2 218 5 = (x.1 : Nat) := hfl.1
      have ek := m_keepsCodes1 (n := n) (z := z) (H := H) (M := M2) (w := w) (by omega) (by omega) (by omega) (d + 8)
      have r := hG M2 ⟨KW2, hfl, fa.1, fa.2⟩
      simp (disch := omega) only [Rm_aload_n (k := 0) rfl dX12_sumIsTold_0, Rm_getfield fl_12_242 dX12_sumIsTold_1, Rn_if_ne (t := 23) rfl dX12_sumIsTold_4, Rm_aload_n (k := 0) rfl dX12_sumIsTold_7, Rm_getfield fl_12_127 dX12_sumIsTold_8, Rm_iload_n (k := 1) rfl dX12_sumIsTold_11, Rm_iaload dX12_sumIsTold_12, Rn_iconst (v := jI (-1)) rfl dX12_sumIsTold_13, Rn_icmp_eq (t := 23) rfl dX12_sumIsTold_14, Rm_aload_n (k := 0) rfl dX12_sumIsTold_17, Rn_iconst (v := jI (5)) rfl dX12_sumIsTold_18, Rm_iload_n (k := 2) rfl dX12_sumIsTold_19, Rm_inV2 (d := dX12_sumIsTold_20) (hy := mo_139) (h13 := rfl) ml_12_272 rfl, Rm_aload_n (k := 0) rfl dX12_sumIsTold_23, Rm_getfield fl_12_242 dX12_sumIsTold_24, Rn_if_eq (t := 31) rfl dX12_sumIsTold_27, Rn_return rfl dX12_sumIsTold_30, Rm_aload_n (k := 0) rfl dX12_sumIsTold_31, Rn_iconst (v := jI (0)) rfl dX12_sumIsTold_32, Rm_inV1 (d := dX12_sumIsTold_33) (hy := mo_163) (h13 := rfl) ml_12_353 rfl, Rm_aload_n (k := 0) rfl dX12_sumIsTold_36, Rm_inV0 (d := dX12_sumIsTold_37) (hy := mo_251) (h13 := rfl) ml_12_356 rfl, Rm_aload_n (k := 0) rfl dX12_sumIsTold_40, Rm_iload_n (k := 1) rfl dX12_sumIsTold_41, Rm_inV1 (d := dX12_sumIsTold_42) (hy := mo_162) (h13 := rfl) ml_12_359 rfl, Rn_return rfl dX12_sumIsTold_45, gs12_5 k218, gs12_46 k218, rdM k256 l256, wrM k256 l256, alM k256 l256, io12 k218, io12 k218, y5, y256, eb, e2, ek, qI_s, qJ_s, qR_s, qV_s, qX_s, qN_s, qW_s, qF_s, qC_s, Option.bind_some, Option.bind_none, Nat.reduceAdd, Nat.reduceBEq, Nat.reduceEqDiff, lk_nil, lk_cons, lk_pt1, lk_pt2i, isJ_i, isJ_r, isJ_l, gI_i, gJ_i, gR_i, Bool.false_eq_true, if_true, if_false, ite_true, ite_false, ↓reduceIte, len4_0, len4_1, len4_2, len4_3, len4_4, Option.toList_some, Option.toList_none, List.cons_append, List.nil_append, va_rf_s, up_hp, ofI_j, jI_add, jI_sub, jI_mul, jI_neg, jL_add, jL_sub, jL_mul, jI_jL, jL_jI, nar_i, nar_zj, lt_t, lt_f, le_t, le_f, eq_t, eq_f, ez_t, ez_f, lz_t, lz_f, gz_t, gz_f, nz_t, nz_f, pz_t, pz_f, lgc_gt, lgc_lt, lgc_ge, lgc_le, lgc_eq, Lt_t, Lt_f, Le_t, Le_f, Eq_t, Eq_f, dv_j, not_true_eq_false, not_false_eq_true, Int.reduceEq, Int.reduceAdd, Int.reduceSub, Int.reduceMul, Int.reduceNeg, Ez_t, Ez_f, dv_L, false_and, true_and, and_true, and_false]
      exact r
  · rw [if_pos q] at hG
    have hsb : 0 ≤ M 256 w ∧ M 256 w ≤ 1600 := by
      rcases hRC with ⟨h, -⟩ | ⟨-, h1, h2, h3, -⟩
      · exact absurd h q
      · omega
    have ff := m_fail0 (n := n) (z := z) (H := H) (M := M) (a := 5) (p := (skp g k e : Nat)) y5 (d + 8)
    have yf := fl5 M 5 (skp g k e : Nat)
    have r := hG _ ⟨KW_2 (KN2_fl (KN2_refl M) 5 (skp g k e : Nat)), flFL _ _ _, by omega, by omega⟩
    simp (disch := omega) only [Rm_aload_n (k := 0) rfl dX12_sumIsTold_0, Rm_getfield fl_12_242 dX12_sumIsTold_1, Rn_if_ne (t := 23) rfl dX12_sumIsTold_4, Rm_aload_n (k := 0) rfl dX12_sumIsTold_7, Rm_getfield fl_12_127 dX12_sumIsTold_8, Rm_iload_n (k := 1) rfl dX12_sumIsTold_11, Rm_iaload dX12_sumIsTold_12, Rn_iconst (v := jI (-1)) rfl dX12_sumIsTold_13, Rn_icmp_eq (t := 23) rfl dX12_sumIsTold_14, Rm_aload_n (k := 0) rfl dX12_sumIsTold_17, Rn_iconst (v := jI (5)) rfl dX12_sumIsTold_18, Rm_iload_n (k := 2) rfl dX12_sumIsTold_19, Rm_inV2 (d := dX12_sumIsTold_20) (hy := mo_139) (h13 := rfl) ml_12_272 rfl, Rm_aload_n (k := 0) rfl dX12_sumIsTold_23, Rm_getfield fl_12_242 dX12_sumIsTold_24, Rn_if_eq (t := 31) rfl dX12_sumIsTold_27, Rn_return rfl dX12_sumIsTold_30, Rm_aload_n (k := 0) rfl dX12_sumIsTold_31, Rn_iconst (v := jI (0)) rfl dX12_sumIsTold_32, Rm_inV1 (d := dX12_sumIsTold_33) (hy := mo_163) (h13 := rfl) ml_12_353 rfl, Rm_aload_n (k := 0) rfl dX12_sumIsTold_36, Rm_inV0 (d := dX12_sumIsTold_37) (hy := mo_251) (h13 := rfl) ml_12_356 rfl, Rm_aload_n (k := 0) rfl dX12_sumIsTold_40, Rm_iload_n (k := 1) rfl dX12_sumIsTold_41, Rm_inV1 (d := dX12_sumIsTold_42) (hy := mo_162) (h13 := rfl) ml_12_359 rfl, Rn_return rfl dX12_sumIsTold_45, gs12_5 k218, gs12_46 k218, rdM k256 l256, wrM k256 l256, alM k256 l256, io12 k218, io12 k218, y5, ff, yf, qI_s, qJ_s, qR_s, qV_s, qX_s, qN_s, qW_s, qF_s, qC_s, Option.bind_some, Option.bind_none, Nat.reduceAdd, Nat.reduceBEq, Nat.reduceEqDiff, lk_nil, lk_cons, lk_pt1, lk_pt2i, isJ_i, isJ_r, isJ_l, gI_i, gJ_i, gR_i, Bool.false_eq_true, if_true, if_false, ite_true, ite_false, ↓reduceIte, len4_0, len4_1, len4_2, len4_3, len4_4, Option.toList_some, Option.toList_none, List.cons_append, List.nil_append, va_rf_s, up_hp, ofI_j, jI_add, jI_sub, jI_mul, jI_neg, jL_add, jL_sub, jL_mul, jI_jL, jL_jI, nar_i, nar_zj, lt_t, lt_f, le_t, le_f, eq_t, eq_f, ez_t, ez_f, lz_t, lz_f, gz_t, gz_f, nz_t, nz_f, pz_t, pz_f, lgc_gt, lgc_lt, lgc_ge, lgc_le, lgc_eq, Lt_t, Lt_f, Le_t, Le_f, Eq_t, Eq_f, dv_j, not_true_eq_false, not_false_eq_true, Int.reduceEq, Int.reduceAdd, Int.reduceSub, Int.reduceMul, Int.reduceNeg, Ez_t, Ez_f, dv_L, false_and, true_and, and_true, and_false]
    exact r
set_option maxHeartbeats 8000000 in
theorem m_deedTold {s : Nat} {B : BT} (hb : Byt g k) (hk : k ≤ 1600) (he : e ≤ k) (hj : tkJ g k e nb = 1) (hP : PQ g k (tkQ g k e) (nxB g k e nb) M) (hWK : WK M) (hC : CNR M B) (hD : BDR M B s) (hB : bdB B) (hs : s ≤ e) (d : Nat) : ∃ M' : Me, X (d + 13) 165 [.ref 218, .int (jI (skp g k e : Nat))] (n, z, hp H M) = some (none, (n, z, hp H M')) ∧ KW M M' ∧ PtR g k (deF g k (e, nb) B) M' := by
  refine ex_of fun G hG => ?_
  obtain ⟨w1, w2, w3, w4, w5⟩ := id hB
  have hn := nx_P (g := g) (k := k) (p := (e, nb)) he hj (by omega) (by omega)
  have hn1 : e < tkQ g k e := hn.1
  have hnQ : tkQ g k e ≤ k := hn.2
  have y5 : M 218 5 = 0 := hP.2.2.2.2.1
  have c3 : M 250 3 = (nd B.1 : Nat) := (hC.1 3 (by omega)).1
  have ef := m_isFull (n := n) (z := z) (H := H) (M := M) (kind := 3) (room := 6) (p := (skp g k e : Nat)) (by omega) (by omega) c3 (by omega) (by omega) (by omega) (by omega) y5 (d + 10)
  rw [Xe_X12_deedTold]
  unfold deF at hG
  by_cases q6 : nd B.1 = 6
  · rw [if_pos (by omega)] at ef
    rw [newF_full (p := (e, nb)) (show cntK B.1 3 = mxK 3 from q6)] at hG
    have r := hG _ ⟨KW_2 (KN2_fl (KN2_refl M) 5 (skp g k e : Nat)), flFL _ _ _, by omega, by omega⟩
    simp (disch := omega) only [Rm_aload_n (k := 0) rfl dX12_deedTold_0, Rn_iconst (v := jI (3)) rfl dX12_deedTold_1, Rn_bipush (v := jI (6)) rfl dX12_deedTold_2, Rm_iload_n (k := 1) rfl dX12_deedTold_4, Rm_inV3 (d := dX12_deedTold_5) (hy := mo_152) (h13 := rfl) ml_12_308 rfl, Rn_if_eq (t := 12) rfl dX12_deedTold_8, Rn_return rfl dX12_deedTold_11, io12 k218, io12 k218, ef, qI_s, qJ_s, qR_s, qV_s, qX_s, qN_s, qW_s, qF_s, qC_s, Option.bind_some, Option.bind_none, Nat.reduceAdd, Nat.reduceBEq, Nat.reduceEqDiff, lk_nil, lk_cons, lk_pt1, lk_pt2i, isJ_i, isJ_r, isJ_l, gI_i, gJ_i, gR_i, Bool.false_eq_true, if_true, if_false, ite_true, ite_false, ↓reduceIte, len4_0, len4_1, len4_2, len4_3, len4_4, Option.toList_some, Option.toList_none, List.cons_append, List.nil_append, va_rf_s, up_hp, ofI_j, jI_add, jI_sub, jI_mul, jI_neg, jL_add, jL_sub, jL_mul, jI_jL, jL_jI, nar_i, nar_zj, lt_t, lt_f, le_t, le_f, eq_t, eq_f, ez_t, ez_f, lz_t, lz_f, gz_t, gz_f, nz_t, nz_f, pz_t, pz_f, lgc_gt, lgc_lt, lgc_ge, lgc_le, lgc_eq, Lt_t, Lt_f, Le_t, Le_f, Eq_t, Eq_f, dv_j, not_true_eq_false, not_false_eq_true, Int.reduceEq, Int.reduceAdd, Int.reduceSub, Int.reduceMul, Int.reduceNeg, Ez_t, Ez_f, dv_L, false_and, true_and, and_true, and_false]
    exact r
  · rw [if_neg (by omega)] at ef
    obtain ⟨v, M1, e1, K1, h1⟩ := m_newP (n := n) (z := z) (H := H) (kind := 3) (by omega) hb hk he hj hP hWK hC (show nd B.1 < 6 by omega) (d + 7)
    have hWK1 := WK_2 hWK K1
    rcases hnf : newF g k 3 (e, nb) B with ⟨L, q⟩ | x
    · rw [hnf] at h1
      obtain ⟨rfl, hPQ⟩ := h1
      obtain ⟨n1, n2, n3, n4⟩ := newF_in (p := (e, nb)) he hj hnf
      have n1' : e < q.1 := n1
      have hG1 : ∀ M', KW M M' → PtR g k (bz (wdT g k 9 q) fun q => bz (evX g k 1 0 q) fun u => .inl ((u.1, u.2.1), setC (nd B.1) u.2.2 (adN 3 L B))) M' → G (some (none, (n, z, hp H M'))) := fun M' a b => hG M' ⟨a, by rw [hnf]; exact b⟩
      clear hG
      obtain ⟨M2, e2, K2, h2⟩ := m_asksP (n := n) (z := z) (H := H) (c := 230) (w := 9) hb hk n2 hPQ hWK1 (by decide) (d + 8)
      rw [show wdT g k ((9 : Nat) : Int) (q.1, q.2) = wdT g k 9 q from rfl] at h2
      have K02 : KN2 M M2 := KN2_trans K1 (KN2_T K2)
      have hWK2 := WK_2 hWK1 (KN2_T K2)
      rcases hwd : wdT g k 9 q with q2 | x
      · rw [hwd] at h2
        obtain ⟨-, f2, f3, -⟩ := wdT_in n2 hwd
        have hG2 : ∀ M', KW M M' → PtR g k (bz (evX g k 1 0 q2) fun u => .inl ((u.1, u.2.1), setC (nd B.1) u.2.2 (adN 3 L B))) M' → G (some (none, (n, z, hp H M'))) := fun M' a b => hG1 M' a (by rw [hwd]; exact b)
        clear hG1
        have z25 : M2 218 5 = 0 := h2.2.2.2.2.1
        have eb := m_begins (n := n) (z := z) (H := H) (M := M2) (wh := 1) (d + 11)
        have hQb := bgM_QS M2 1
        rw [show (((1 : Nat)) : Int) = 1 from rfl] at hQb
        have hev := evX_eq (g := g) (k := k) (wh := 1) (tag := 0) (p := q2) (by omega) f3
        obtain ⟨M3, e3, K3, h3⟩ := r_test (n := n) (z := z) (H := H) hb hk (by omega) f3 (by omega) (by simp) (PQ_bg h2 1) hQb (WK_W hWK2 (KW_bg M2 1)) hev d
        have KW3 : KW M M3 := KW_trans (KW_2 K02) (KW_trans (KW_bg M2 1) (KW_B K3))
        have F3 : ∀ b, ¬ (b = 218 ∨ b = 288 ∨ b = 289) → M3 b = M b := fun b hb => by rw [K3.1 b hb, bgM_ne _ _ (by omega), K02.1 b (by omega)]
        have z3 : M3 250 3 = (nd B.1 : Nat) := by rw [F3 250 (by omega)]; exact c3
        rcases hx : evX g k 1 0 q2 with ⟨e', nb', cs⟩ | x
        · rw [hx] at h3
          obtain ⟨hP3, hQ3, hWK3⟩ := h3
          rw [List.nil_append] at hQ3
          have hl := evX_len (by omega) f3 hx
          have hty := evX_ty (Or.inl rfl) f3 hx
          have s3 : M3 218 49 = (s : Int) := by rw [K3.2 49 (by omega), bgM_f _ _ (by omega), K02.2 49 (by omega)]; exact hD.2.2.2.1.1
          obtain ⟨M4, e4, g1, g2, g3, g4, g5, g6, g7⟩ := m_keepsCodes (n := n) (z := z) (H := H) (w := 2 + (nd B.1 : Nat)) (by omega) (by omega) hP3.2.2.2.2.1 hQ3 s3 (by rw [List.length_map]; omega) (d + 11)
          rw [F3 256 (by omega)] at g4
          rw [F3 257 (by omega)] at g5
          have KW4 : KW M M4 := KW_trans KW3 (fun b i hb => by
            by_cases q1 : b = 218
            · subst q1; exact g2 i (fun hi => hb (okW_218 (by subst hi; decide)))
            · by_cases q2 : b = 256
              · subst q2
                rw [g4, F3 256 (by omega)]
                exact su_ne _ _ (fun hi => hb (okW_256 (by omega)))
              · by_cases q3 : b = 257
                · subst q3
                  rw [g5, F3 257 (by omega)]
                  exact su_ne _ _ (fun hi => hb (okW_257 (by omega)))
                · by_cases q4 : b = 258
                  · subst q4
                    exact g6 i (by
                      rcases Int.lt_or_le i 1600 with h | h
                      · exact absurd (okW_258 h) hb
                      · exact Or.inr h)
                  · rw [g1 b (by rintro (h | h | h | h) <;> contradiction)])
          have F4 : ∀ b, ¬ (b = 218 ∨ b = 256 ∨ b = 257 ∨ b = 258 ∨ b = 288 ∨ b = 289) → M4 b = M b := fun b hb => by rw [g1 b (by omega), F3 b (by omega)]
          have hC4 : CNR M4 B := CNR_keep hC (F4 250 (by omega)) (F4 251 (by omega))
          have z45 : M4 218 5 = 0 := by rw [g2 5 (by omega)]; exact hP3.2.2.2.2.1
          have ei := m_isNamed (n := n) (z := z) (H := H) (kind := 3) (v := (pkF 0 L : Nat)) (by omega) hC4 (by show nd B.1 < 8; omega) z45 (d + 11)
          rw [show (((3 : Nat)) : Int) = 3 from rfl, show cntK B.1 3 = nd B.1 from rfl] at ei
          have r := hG2 (st (st M4 251 (8 * 3 + (nd B.1 : Nat)) (pkF 0 L : Nat)) 250 3 ((nd B.1 : Nat) + 1)) (KW_st (KW_st KW4 (okW_251 (by omega))) (okW_250 (by omega))) (by
            rw [hx]
            show PQ g k e' nb' _ ∧ CNR _ (setC (nd B.1) cs (adN 3 L B)) ∧ ∃ s, s ≤ e' ∧ BDR _ (setC (nd B.1) cs (adN 3 L B)) s
            refine ⟨PQ_fr (PQ_B hP3 (g1 219 (by omega)) (fun i hi => g2 i (by omega))) (by rw [st_ne _ _ _ (by omega), st_ne _ _ _ (by omega)]) (by rw [st_ne _ _ _ (by omega), st_ne _ _ _ (by omega)]), CNR_adN (B := B) (by omega) hC4 n3 (by show nd B.1 < 6; omega) (by rw [st_self, st_ne _ _ _ (by omega)]; rfl) (by rw [st_ne _ _ _ (by omega), st_self]; rfl), s + (cs.map qc).length, by rw [List.length_map]; omega, ?_⟩
            obtain ⟨d1, d2, d3, ⟨d41, d42, d43, d44⟩, d5⟩ := hD
            have F9 : ∀ b, ¬ (b = 218 ∨ b = 250 ∨ b = 251) → (st (st M4 251 (8 * 3 + (nd B.1 : Nat)) (pkF 0 L : Nat)) 250 3 ((nd B.1 : Nat) + 1)) b = M4 b := fun b hb => by rw [st_ne _ _ _ (by omega), st_ne _ _ _ (by omega)]
            have g6' : ∀ i : Int, i < s → (st (st M4 251 (8 * 3 + (nd B.1 : Nat)) (pkF 0 L : Nat)) 250 3 ((nd B.1 : Nat) + 1)) 258 i = M 258 i := fun i hi => by rw [F9 258 (by omega), g6 i (Or.inl hi), F3 258 (by omega)]
            have g4' := g4
            have g5' := g5
            rw [← F9 256 (by omega)] at g4'
            rw [← F9 257 (by omega)] at g5'
            have hnew : RC0 (st (st M4 251 (8 * 3 + (nd B.1 : Nat)) (pkF 0 L : Nat)) 250 3 ((nd B.1 : Nat) + 1)) (2 + (nd B.1 : Nat)) cs (s + (cs.map qc).length) := RC0_new (M := M) (ty_ne hty) g4' g5' (by rw [F9 258 (by omega)]; exact g7)
            refine ⟨?_, ?_, ?_, ⟨?_, ?_, ?_, fun d hd => ?_⟩, ?_⟩
            · rw [F9 252 (by omega), F4 252 (by omega)]; exact d1
            · rw [F9 253 (by omega), F4 253 (by omega)]; exact d2
            · rw [F9 254 (by omega), F4 254 (by omega)]; exact d3
            · rw [st_ne _ _ _ (by omega), st_ne _ _ _ (by omega)]; exact g3
            · show RC0 _ 0 (if 6 = nd B.1 then cs else tc B.1 6) _
              rw [if_neg (by omega)]; exact RC0_old d42 (by omega) (by omega) g4' g5' g6'
            · show RC0 _ 1 (if 7 = nd B.1 then cs else tc B.1 7) _
              rw [if_neg (by omega)]; exact RC0_old d43 (by omega) (by omega) g4' g5' g6'
            · have hd' : d < nd B.1 + 1 := hd
              show RC0 _ (2 + d) (if d = nd B.1 then cs else tc B.1 d) _
              by_cases qd : d = nd B.1
              · rw [if_pos qd, qd]; exact hnew
              · rw [if_neg qd]
                exact RC0_old (d44 d (by omega)) (by omega) (by omega) g4' g5' g6'
            · rw [F9 255 (by omega), F4 255 (by omega)]; exact d5)
          simp (disch := omega) only [Rm_aload_n (k := 0) rfl dX12_deedTold_0, Rn_iconst (v := jI (3)) rfl dX12_deedTold_1, Rn_bipush (v := jI (6)) rfl dX12_deedTold_2, Rm_iload_n (k := 1) rfl dX12_deedTold_4, Rm_inV3 (d := dX12_deedTold_5) (hy := mo_152) (h13 := rfl) ml_12_308 rfl, Rn_if_eq (t := 12) rfl dX12_deedTold_8, Rn_return rfl dX12_deedTold_11, Rm_aload_n (k := 0) rfl dX12_deedTold_12, Rm_inV0 (d := dX12_deedTold_13) (hy := mo_154) (h13 := rfl) ml_12_312 rfl, Rn_lstore_n (k := 2) (nL := 4) rfl rfl dX12_deedTold_16, Rm_aload_n (k := 0) rfl dX12_deedTold_17, Rm_aload_n (k := 0) rfl dX12_deedTold_18, Rm_getfield fl_12_48 dX12_deedTold_19, Rm_inV1 (d := dX12_deedTold_22) (hy := mo_145) (h13 := rfl) ml_12_319 rfl, Rm_aload_n (k := 0) rfl dX12_deedTold_25, Rm_getfield fl_12_242 dX12_deedTold_26, Rn_if_eq (t := 33) rfl dX12_deedTold_29, Rn_return rfl dX12_deedTold_32, Rm_aload_n (k := 0) rfl dX12_deedTold_33, Rn_iconst (v := jI (1)) rfl dX12_deedTold_34, Rm_inV1 (d := dX12_deedTold_35) (hy := mo_163) (h13 := rfl) ml_12_353 rfl, Rm_aload_n (k := 0) rfl dX12_deedTold_38, Rm_inV0 (d := dX12_deedTold_39) (hy := mo_255) (h13 := rfl) ml_12_362 rfl, Rm_aload_n (k := 0) rfl dX12_deedTold_42, Rn_iconst (v := jI (2)) rfl dX12_deedTold_43, Rm_aload_n (k := 0) rfl dX12_deedTold_44, Rm_getfield fl_12_108 dX12_deedTold_45, Rn_iconst (v := jI (3)) rfl dX12_deedTold_48, Rm_iaload dX12_deedTold_49, Rn_iadd dX12_deedTold_50, Rm_inV1 (d := dX12_deedTold_51) (hy := mo_162) (h13 := rfl) ml_12_359 rfl, Rm_aload_n (k := 0) rfl dX12_deedTold_54, Rn_iconst (v := jI (3)) rfl dX12_deedTold_55, Rm_lload_n (k := 2) rfl dX12_deedTold_56, Rm_inV2 (d := dX12_deedTold_57) (hy := mo_156) (h13 := rfl) ml_12_315 rfl, Rn_return rfl dX12_deedTold_60, gs12_5 k218, gs12_19 k218, rdC k230 l230, alC k230 l230, gs12_40 k218, rdM k250 l250, wrM k250 l250, alM k250 l250, io12 k218, io12 k218, ef, e1, e2, z25, eb, e3, z3, e4, ei, qI_s, qJ_s, qR_s, qV_s, qX_s, qN_s, qW_s, qF_s, qC_s, Option.bind_some, Option.bind_none, Nat.reduceAdd, Nat.reduceBEq, Nat.reduceEqDiff, lk_nil, lk_cons, lk_pt1, lk_pt2i, isJ_i, isJ_r, isJ_l, gI_i, gJ_i, gR_i, Bool.false_eq_true, if_true, if_false, ite_true, ite_false, ↓reduceIte, len4_0, len4_1, len4_2, len4_3, len4_4, Option.toList_some, Option.toList_none, List.cons_append, List.nil_append, va_rf_s, up_hp, ofI_j, jI_add, jI_sub, jI_mul, jI_neg, jL_add, jL_sub, jL_mul, jI_jL, jL_jI, nar_i, nar_zj, lt_t, lt_f, le_t, le_f, eq_t, eq_f, ez_t, ez_f, lz_t, lz_f, gz_t, gz_f, nz_t, nz_f, pz_t, pz_f, lgc_gt, lgc_lt, lgc_ge, lgc_le, lgc_eq, Lt_t, Lt_f, Le_t, Le_f, Eq_t, Eq_f, dv_j, not_true_eq_false, not_false_eq_true, Int.reduceEq, Int.reduceAdd, Int.reduceSub, Int.reduceMul, Int.reduceNeg, Ez_t, Ez_f, dv_L, false_and, true_and, and_true, and_false]
          exact r
        · rw [hx] at h3
          obtain ⟨fa, hfl, -⟩ := h3
          have z5 : M3 218 5 = (x.1 : Nat) := hfl.1
          have ek := m_keepsCodes1 (n := n) (z := z) (H := H) (M := M3) (w := 2 + (nd B.1 : Nat)) (by omega) (by omega) (by omega) (d + 11)
          have ei := m_isNamed1 (n := n) (z := z) (H := H) (M := M3) (kind := 3) (v := (pkF 0 L : Nat)) (by omega) (by omega) (by omega) (d + 11)
          have r := hG2 M3 KW3 (by rw [hx]; exact ⟨hfl, fa.1, fa.2⟩)
          simp (disch := omega) only [Rm_aload_n (k := 0) rfl dX12_deedTold_0, Rn_iconst (v := jI (3)) rfl dX12_deedTold_1, Rn_bipush (v := jI (6)) rfl dX12_deedTold_2, Rm_iload_n (k := 1) rfl dX12_deedTold_4, Rm_inV3 (d := dX12_deedTold_5) (hy := mo_152) (h13 := rfl) ml_12_308 rfl, Rn_if_eq (t := 12) rfl dX12_deedTold_8, Rn_return rfl dX12_deedTold_11, Rm_aload_n (k := 0) rfl dX12_deedTold_12, Rm_inV0 (d := dX12_deedTold_13) (hy := mo_154) (h13 := rfl) ml_12_312 rfl, Rn_lstore_n (k := 2) (nL := 4) rfl rfl dX12_deedTold_16, Rm_aload_n (k := 0) rfl dX12_deedTold_17, Rm_aload_n (k := 0) rfl dX12_deedTold_18, Rm_getfield fl_12_48 dX12_deedTold_19, Rm_inV1 (d := dX12_deedTold_22) (hy := mo_145) (h13 := rfl) ml_12_319 rfl, Rm_aload_n (k := 0) rfl dX12_deedTold_25, Rm_getfield fl_12_242 dX12_deedTold_26, Rn_if_eq (t := 33) rfl dX12_deedTold_29, Rn_return rfl dX12_deedTold_32, Rm_aload_n (k := 0) rfl dX12_deedTold_33, Rn_iconst (v := jI (1)) rfl dX12_deedTold_34, Rm_inV1 (d := dX12_deedTold_35) (hy := mo_163) (h13 := rfl) ml_12_353 rfl, Rm_aload_n (k := 0) rfl dX12_deedTold_38, Rm_inV0 (d := dX12_deedTold_39) (hy := mo_255) (h13 := rfl) ml_12_362 rfl, Rm_aload_n (k := 0) rfl dX12_deedTold_42, Rn_iconst (v := jI (2)) rfl dX12_deedTold_43, Rm_aload_n (k := 0) rfl dX12_deedTold_44, Rm_getfield fl_12_108 dX12_deedTold_45, Rn_iconst (v := jI (3)) rfl dX12_deedTold_48, Rm_iaload dX12_deedTold_49, Rn_iadd dX12_deedTold_50, Rm_inV1 (d := dX12_deedTold_51) (hy := mo_162) (h13 := rfl) ml_12_359 rfl, Rm_aload_n (k := 0) rfl dX12_deedTold_54, Rn_iconst (v := jI (3)) rfl dX12_deedTold_55, Rm_lload_n (k := 2) rfl dX12_deedTold_56, Rm_inV2 (d := dX12_deedTold_57) (hy := mo_156) (h13 := rfl) ml_12_315 rfl, Rn_return rfl dX12_deedTold_60, gs12_5 k218, gs12_19 k218, rdC k230 l230, alC k230 l230, gs12_40 k218, rdM k250 l250, wrM k250 l250, alM k250 l250, io12 k218, io12 k218, ef, e1, e2, z25, eb, e3, z3, ek, ei, qI_s, qJ_s, qR_s, qV_s, qX_s, qN_s, qW_s, qF_s, qC_s, Option.bind_some, Option.bind_none, Nat.reduceAdd, Nat.reduceBEq, Nat.reduceEqDiff, lk_nil, lk_cons, lk_pt1, lk_pt2i, isJ_i, isJ_r, isJ_l, gI_i, gJ_i, gR_i, Bool.false_eq_true, if_true, if_false, ite_true, ite_false, ↓reduceIte, len4_0, len4_1, len4_2, len4_3, len4_4, Option.toList_some, Option.toList_none, List.cons_append, List.nil_append, va_rf_s, up_hp, ofI_j, jI_add, jI_sub, jI_mul, jI_neg, jL_add, jL_sub, jL_mul, jI_jL, jL_jI, nar_i, nar_zj, lt_t, lt_f, le_t, le_f, eq_t, eq_f, ez_t, ez_f, lz_t, lz_f, gz_t, gz_f, nz_t, nz_f, pz_t, pz_f, lgc_gt, lgc_lt, lgc_ge, lgc_le, lgc_eq, Lt_t, Lt_f, Le_t, Le_f, Eq_t, Eq_f, dv_j, not_true_eq_false, not_false_eq_true, Int.reduceEq, Int.reduceAdd, Int.reduceSub, Int.reduceMul, Int.reduceNeg, Ez_t, Ez_f, dv_L, false_and, true_and, and_true, and_false]
          exact r
      · rw [hwd] at h2
        obtain ⟨hfl, x1, x2⟩ := h2
        have z5 : M2 218 5 = (x.1 : Nat) := hfl.1
        have r := hG1 M2 (KW_2 K02) (by rw [hwd]; exact ⟨hfl, x1, x2⟩)
        simp (disch := omega) only [Rm_aload_n (k := 0) rfl dX12_deedTold_0, Rn_iconst (v := jI (3)) rfl dX12_deedTold_1, Rn_bipush (v := jI (6)) rfl dX12_deedTold_2, Rm_iload_n (k := 1) rfl dX12_deedTold_4, Rm_inV3 (d := dX12_deedTold_5) (hy := mo_152) (h13 := rfl) ml_12_308 rfl, Rn_if_eq (t := 12) rfl dX12_deedTold_8, Rn_return rfl dX12_deedTold_11, Rm_aload_n (k := 0) rfl dX12_deedTold_12, Rm_inV0 (d := dX12_deedTold_13) (hy := mo_154) (h13 := rfl) ml_12_312 rfl, Rn_lstore_n (k := 2) (nL := 4) rfl rfl dX12_deedTold_16, Rm_aload_n (k := 0) rfl dX12_deedTold_17, Rm_aload_n (k := 0) rfl dX12_deedTold_18, Rm_getfield fl_12_48 dX12_deedTold_19, Rm_inV1 (d := dX12_deedTold_22) (hy := mo_145) (h13 := rfl) ml_12_319 rfl, Rm_aload_n (k := 0) rfl dX12_deedTold_25, Rm_getfield fl_12_242 dX12_deedTold_26, Rn_if_eq (t := 33) rfl dX12_deedTold_29, Rn_return rfl dX12_deedTold_32, gs12_5 k218, gs12_19 k218, rdC k230 l230, alC k230 l230, io12 k218, io12 k218, ef, e1, e2, z5, qI_s, qJ_s, qR_s, qV_s, qX_s, qN_s, qW_s, qF_s, qC_s, Option.bind_some, Option.bind_none, Nat.reduceAdd, Nat.reduceBEq, Nat.reduceEqDiff, lk_nil, lk_cons, lk_pt1, lk_pt2i, isJ_i, isJ_r, isJ_l, gI_i, gJ_i, gR_i, Bool.false_eq_true, if_true, if_false, ite_true, ite_false, ↓reduceIte, len4_0, len4_1, len4_2, len4_3, len4_4, Option.toList_some, Option.toList_none, List.cons_append, List.nil_append, va_rf_s, up_hp, ofI_j, jI_add, jI_sub, jI_mul, jI_neg, jL_add, jL_sub, jL_mul, jI_jL, jL_jI, nar_i, nar_zj, lt_t, lt_f, le_t, le_f, eq_t, eq_f, ez_t, ez_f, lz_t, lz_f, gz_t, gz_f, nz_t, nz_f, pz_t, pz_f, lgc_gt, lgc_lt, lgc_ge, lgc_le, lgc_eq, Lt_t, Lt_f, Le_t, Le_f, Eq_t, Eq_f, dv_j, not_true_eq_false, not_false_eq_true, Int.reduceEq, Int.reduceAdd, Int.reduceSub, Int.reduceMul, Int.reduceNeg, Ez_t, Ez_f, dv_L, false_and, true_and, and_true, and_false]
        exact r
    · rw [hnf] at h1
      obtain ⟨hfl, x1, x2⟩ := h1
      have z5 : M1 218 5 = (x.1 : Nat) := hfl.1
      have ea := m_asks1 (n := n) (z := z) (H := H) (M := M1) (c := 230) (by omega) (by omega) (by omega) (d + 11)
      have r := hG M1 ⟨KW_2 K1, by rw [hnf]; exact ⟨hfl, x1, x2⟩⟩
      simp (disch := omega) only [Rm_aload_n (k := 0) rfl dX12_deedTold_0, Rn_iconst (v := jI (3)) rfl dX12_deedTold_1, Rn_bipush (v := jI (6)) rfl dX12_deedTold_2, Rm_iload_n (k := 1) rfl dX12_deedTold_4, Rm_inV3 (d := dX12_deedTold_5) (hy := mo_152) (h13 := rfl) ml_12_308 rfl, Rn_if_eq (t := 12) rfl dX12_deedTold_8, Rn_return rfl dX12_deedTold_11, Rm_aload_n (k := 0) rfl dX12_deedTold_12, Rm_inV0 (d := dX12_deedTold_13) (hy := mo_154) (h13 := rfl) ml_12_312 rfl, Rn_lstore_n (k := 2) (nL := 4) rfl rfl dX12_deedTold_16, Rm_aload_n (k := 0) rfl dX12_deedTold_17, Rm_aload_n (k := 0) rfl dX12_deedTold_18, Rm_getfield fl_12_48 dX12_deedTold_19, Rm_inV1 (d := dX12_deedTold_22) (hy := mo_145) (h13 := rfl) ml_12_319 rfl, Rm_aload_n (k := 0) rfl dX12_deedTold_25, Rm_getfield fl_12_242 dX12_deedTold_26, Rn_if_eq (t := 33) rfl dX12_deedTold_29, Rn_return rfl dX12_deedTold_32, gs12_5 k218, gs12_19 k218, rdC k230 l230, alC k230 l230, io12 k218, io12 k218, ef, e1, ea, z5, qI_s, qJ_s, qR_s, qV_s, qX_s, qN_s, qW_s, qF_s, qC_s, Option.bind_some, Option.bind_none, Nat.reduceAdd, Nat.reduceBEq, Nat.reduceEqDiff, lk_nil, lk_cons, lk_pt1, lk_pt2i, isJ_i, isJ_r, isJ_l, gI_i, gJ_i, gR_i, Bool.false_eq_true, if_true, if_false, ite_true, ite_false, ↓reduceIte, len4_0, len4_1, len4_2, len4_3, len4_4, Option.toList_some, Option.toList_none, List.cons_append, List.nil_append, va_rf_s, up_hp, ofI_j, jI_add, jI_sub, jI_mul, jI_neg, jL_add, jL_sub, jL_mul, jI_jL, jL_jI, nar_i, nar_zj, lt_t, lt_f, le_t, le_f, eq_t, eq_f, ez_t, ez_f, lz_t, lz_f, gz_t, gz_f, nz_t, nz_f, pz_t, pz_f, lgc_gt, lgc_lt, lgc_ge, lgc_le, lgc_eq, Lt_t, Lt_f, Le_t, Le_f, Eq_t, Eq_f, dv_j, not_true_eq_false, not_false_eq_true, Int.reduceEq, Int.reduceAdd, Int.reduceSub, Int.reduceMul, Int.reduceNeg, Ez_t, Ez_f, dv_L, false_and, true_and, and_true, and_false]
      exact r
end

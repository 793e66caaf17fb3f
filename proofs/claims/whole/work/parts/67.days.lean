/-! acts: days of the class -/
/-- a day by the seed -/
def dayF (T : TT) (q : Ss × Int) : Ss × Int := if 1 ≤ np T ∧ 1 ≤ nm T then (hoursF T 24 (whS T q.1 q.2), whX q.2) else (hoursF T 24 q.1, q.2)
def daysF (T : TT) (s : Ss) (x : Int) (k : Nat) : Ss × Int := itn (fun _ => dayF T) k (s, x)
theorem whX_rng (x : Int) : 0 ≤ whX x ∧ whX x < 2147483648 := drF_rng _
theorem wf_day {T : TT} {q : Ss × Int} (wT : wfT T) (wS : wfS T q.1) (hx : 0 ≤ q.2 ∧ q.2 < 2147483648) (hh : sh q.1 + 24 ≤ 9999) : wfS T (dayF T q).1 ∧ sh (dayF T q).1 = sh q.1 + 24 ∧ 0 ≤ (dayF T q).2 ∧ (dayF T q).2 < 2147483648 := by
  unfold dayF
  split
  · have w : wfS T (whS T q.1 q.2) := wf_setn wS (asF_rng _).1 (asF_rng _).2
    have e : sh (whS T q.1 q.2) = sh q.1 := rfl
    have e24 : ((24 : Nat) : Int) = 24 := rfl
    have a := wf_hours wT w (k := 24) (by rw [e, e24]; exact hh)
    rw [e, e24] at a
    generalize hoursF T 24 (whS T q.1 q.2) = y at *
    exact ⟨a.1, a.2, whX_rng _⟩
  · have e24 : ((24 : Nat) : Int) = 24 := rfl
    have a := wf_hours wT wS (k := 24) (by rw [e24]; exact hh)
    rw [e24] at a
    generalize hoursF T 24 q.1 = y at *
    exact ⟨a.1, a.2, hx⟩
theorem wf_days {T : TT} {s : Ss} {x : Int} (wT : wfT T) (wS : wfS T s) (hx : 0 ≤ x ∧ x < 2147483648) : ∀ {k : Nat}, sh s + 24 * k ≤ 9999 → wfS T (daysF T s x k).1 ∧ sh (daysF T s x k).1 = sh s + 24 * k ∧ 0 ≤ (daysF T s x k).2 ∧ (daysF T s x k).2 < 2147483648 := by
  intro k
  induction k with
  | zero => intro _; exact ⟨wS, by show sh s = _; omega, hx⟩
  | succ k ih =>
    intro h
    obtain ⟨a, b, c⟩ := ih (by omega)
    have := wf_day wT a c (by omega)
    have e : daysF T s x (k + 1) = dayF T (daysF T s x k) := rfl
    rw [e]
    exact ⟨this.1, by rw [this.2.1, b]; omega, this.2.2⟩
section
variable {n z t : Nat} {T : TT} {s : Ss} {hs : List Ss} {H : Nat → AC} {M : Me}
theorem c_whim0 (hB : CB M t T s) (wT : wfT T) (wS : wfS T s) (h : ¬ (1 ≤ np T ∧ 1 ≤ nm T)) (d : Nat) : X (d + 3) 132 [.ref 8] (n, z, hp H M) = some (none, (n, z, hp H M)) := by
  obtain ⟨hc, ht, hT, hS, hu1, hu2⟩ := id hB
  obtain ⟨⟨c0, c1, c2, c3, c4⟩, clv, cml, ccd, ⟨cb, cev, cwh⟩, -⟩ := id hT
  obtain ⟨wm, wp, wl, we, wd, wlv, wme, wde, w6, w7, wbk, wev, wwh⟩ := id wT
  have wh := wS.1
  have e0 := hS.1
  have ht9 := a9 ht
  rw [Xe_X11_followWhim]
  by_cases q : np T = 0
  · simp (disch := omega) only [Rm_aload_n (k := 0) rfl dX11_followWhim_0, Rm_getfield fl_11_51 dX11_followWhim_1, Rm_getfield fl_11_138 dX11_followWhim_4, Rn_iconst (v := jI (1)) rfl dX11_followWhim_7, Rm_iaload dX11_followWhim_8, Rn_istore_n (k := 1) (nL := 7) rfl rfl dX11_followWhim_9, Rm_aload_n (k := 0) rfl dX11_followWhim_10, Rm_getfield fl_11_51 dX11_followWhim_11, Rm_getfield fl_11_138 dX11_followWhim_14, Rn_iconst (v := jI (0)) rfl dX11_followWhim_17, Rm_iaload dX11_followWhim_18, Rn_istore_n (k := 2) (nL := 7) rfl rfl dX11_followWhim_19, Rm_iload_n (k := 1) rfl dX11_followWhim_20, Rn_if_eq (t := 28) rfl dX11_followWhim_21, Rm_iload_n (k := 2) rfl dX11_followWhim_24, Rn_if_ne (t := 29) rfl dX11_followWhim_25, Rn_return rfl dX11_followWhim_28, gs9_1 ht, rdM (ka9_1 ht) (la9_1 ht), wrM (ka9_1 ht) (la9_1 ht), alM (ka9_1 ht) (la9_1 ht), gs11_6 k8, hc, c0, c1, qI_s, qJ_s, qR_s, qV_s, qX_s, qN_s, qW_s, qF_s, qC_s, Option.bind_some, Option.bind_none, Nat.reduceAdd, Nat.reduceBEq, Nat.reduceEqDiff, lk_nil, lk_cons, lk_pt1, lk_pt2i, isJ_i, isJ_r, isJ_l, gI_i, gJ_i, gR_i, Bool.false_eq_true, if_true, if_false, ite_true, ite_false, ↓reduceIte, len4_0, len4_1, len4_2, len4_3, len4_4, Option.toList_some, Option.toList_none, List.cons_append, List.nil_append, va_rf_s, up_hp, ofI_j, jI_add, jI_sub, jI_mul, jI_neg, jL_add, jL_sub, jL_mul, jI_jL, jL_jI, nar_i, nar_zj, lt_t, lt_f, le_t, le_f, eq_t, eq_f, ez_t, ez_f, lz_t, lz_f, gz_t, gz_f, nz_t, nz_f, pz_t, pz_f, lgc_gt, lgc_lt, lgc_ge, lgc_le, lgc_eq, Lt_t, Lt_f, Le_t, Le_f, Eq_t, Eq_f, dv_j, not_true_eq_false, not_false_eq_true, Int.reduceEq, Int.reduceAdd, Int.reduceSub, Int.reduceMul, Int.reduceNeg, Ez_t, Ez_f, dv_L, false_and, true_and, and_true, and_false]
  · simp (disch := omega) only [Rm_aload_n (k := 0) rfl dX11_followWhim_0, Rm_getfield fl_11_51 dX11_followWhim_1, Rm_getfield fl_11_138 dX11_followWhim_4, Rn_iconst (v := jI (1)) rfl dX11_followWhim_7, Rm_iaload dX11_followWhim_8, Rn_istore_n (k := 1) (nL := 7) rfl rfl dX11_followWhim_9, Rm_aload_n (k := 0) rfl dX11_followWhim_10, Rm_getfield fl_11_51 dX11_followWhim_11, Rm_getfield fl_11_138 dX11_followWhim_14, Rn_iconst (v := jI (0)) rfl dX11_followWhim_17, Rm_iaload dX11_followWhim_18, Rn_istore_n (k := 2) (nL := 7) rfl rfl dX11_followWhim_19, Rm_iload_n (k := 1) rfl dX11_followWhim_20, Rn_if_eq (t := 28) rfl dX11_followWhim_21, Rm_iload_n (k := 2) rfl dX11_followWhim_24, Rn_if_ne (t := 29) rfl dX11_followWhim_25, Rn_return rfl dX11_followWhim_28, gs9_1 ht, rdM (ka9_1 ht) (la9_1 ht), wrM (ka9_1 ht) (la9_1 ht), alM (ka9_1 ht) (la9_1 ht), gs11_6 k8, hc, c0, c1, qI_s, qJ_s, qR_s, qV_s, qX_s, qN_s, qW_s, qF_s, qC_s, Option.bind_some, Option.bind_none, Nat.reduceAdd, Nat.reduceBEq, Nat.reduceEqDiff, lk_nil, lk_cons, lk_pt1, lk_pt2i, isJ_i, isJ_r, isJ_l, gI_i, gJ_i, gR_i, Bool.false_eq_true, if_true, if_false, ite_true, ite_false, ↓reduceIte, len4_0, len4_1, len4_2, len4_3, len4_4, Option.toList_some, Option.toList_none, List.cons_append, List.nil_append, va_rf_s, up_hp, ofI_j, jI_add, jI_sub, jI_mul, jI_neg, jL_add, jL_sub, jL_mul, jI_jL, jL_jI, nar_i, nar_zj, lt_t, lt_f, le_t, le_f, eq_t, eq_f, ez_t, ez_f, lz_t, lz_f, gz_t, gz_f, nz_t, nz_f, pz_t, pz_f, lgc_gt, lgc_lt, lgc_ge, lgc_le, lgc_eq, Lt_t, Lt_f, Le_t, Le_f, Eq_t, Eq_f, dv_j, not_true_eq_false, not_false_eq_true, Int.reduceEq, Int.reduceAdd, Int.reduceSub, Int.reduceMul, Int.reduceNeg, Ez_t, Ez_f, dv_L, false_and, true_and, and_true, and_false]
set_option maxHeartbeats 4000000 in
theorem c_days_f (hB : CB M t T s) (wT : wfT T) (wS : wfS T s) {k : Int} (k_0 : -2147483648 ≤ k) (k_1 : k < 2147483648) (hk : ¬ (1 ≤ k ∧ k ≤ 20 ∧ sh s + 24 * k ≤ 9999)) (d : Nat) : X (d + 8) 111 [.ref 8, .int (jI k)] (n, z, hp H M) = some (some (.int (jI (-1))), (n, z, hp H (st M 172 2 (M 172 2 + 1)))) := by
  obtain ⟨hc, ht, hT, hS, hu1, hu2⟩ := id hB
  obtain ⟨⟨c0, c1, c2, c3, c4⟩, clv, cml, ccd, ⟨cb, cev, cwh⟩, -⟩ := id hT
  obtain ⟨wm, wp, wl, we, wd, wlv, wme, wde, w6, w7, wbk, wev, wwh⟩ := id wT
  have wh := wS.1
  have e0 := hS.1
  have ht9 := a9 ht
  have er := s_refuse (d + 6) (n := n) (z := z) (H := H) (M := M) (k := 2) (by omega) (by omega)
  rw [Xe_X11_days]
  by_cases q : k < 1
  · simp (disch := omega) only [Rm_iload_n (k := 1) rfl dX11_days_0, Rn_iconst (v := jI (1)) rfl dX11_days_1, Rn_icmp_lt (t := 29) rfl dX11_days_2, Rm_iload_n (k := 1) rfl dX11_days_5, Rn_bipush (v := jI (20)) rfl dX11_days_6, Rn_icmp_gt (t := 29) rfl dX11_days_8, Rm_aload_n (k := 0) rfl dX11_days_11, Rm_getfield fl_11_68 dX11_days_12, Rm_getfield fl_11_141 dX11_days_15, Rm_iload_n (k := 1) rfl dX11_days_18, Rn_bipush (v := jI (24)) rfl dX11_days_19, Rn_imul dX11_days_21, Rn_iadd dX11_days_22, Rn_sipush (v := jI (9999)) rfl dX11_days_23, Rn_icmp_le (t := 35) rfl dX11_days_26, Rm_aload_n (k := 0) rfl dX11_days_29, Rn_iconst (v := jI (2)) rfl dX11_days_30, Rm_inV1 (d := dX11_days_31) (hy := mo_122) (h13 := rfl) ml_11_107 rfl, Rn_ireturn (ty := .int) rfl dX11_days_34, gs7_0 k44, gs11_9 k8, io11 k8, io11 k8, er, qI_s, qJ_s, qR_s, qV_s, qX_s, qN_s, qW_s, qF_s, qC_s, Option.bind_some, Option.bind_none, Nat.reduceAdd, Nat.reduceBEq, Nat.reduceEqDiff, lk_nil, lk_cons, lk_pt1, lk_pt2i, isJ_i, isJ_r, isJ_l, gI_i, gJ_i, gR_i, Bool.false_eq_true, if_true, if_false, ite_true, ite_false, ↓reduceIte, len4_0, len4_1, len4_2, len4_3, len4_4, Option.toList_some, Option.toList_none, List.cons_append, List.nil_append, va_rf_s, up_hp, ofI_j, jI_add, jI_sub, jI_mul, jI_neg, jL_add, jL_sub, jL_mul, jI_jL, jL_jI, nar_i, nar_zj, lt_t, lt_f, le_t, le_f, eq_t, eq_f, ez_t, ez_f, lz_t, lz_f, gz_t, gz_f, nz_t, nz_f, pz_t, pz_f, lgc_gt, lgc_lt, lgc_ge, lgc_le, lgc_eq, Lt_t, Lt_f, Le_t, Le_f, Eq_t, Eq_f, dv_j, not_true_eq_false, not_false_eq_true, Int.reduceEq, Int.reduceAdd, Int.reduceSub, Int.reduceMul, Int.reduceNeg, Ez_t, Ez_f, dv_L, false_and, true_and, and_true, and_false]
  · by_cases q2 : 20 < k
    · simp (disch := omega) only [Rm_iload_n (k := 1) rfl dX11_days_0, Rn_iconst (v := jI (1)) rfl dX11_days_1, Rn_icmp_lt (t := 29) rfl dX11_days_2, Rm_iload_n (k := 1) rfl dX11_days_5, Rn_bipush (v := jI (20)) rfl dX11_days_6, Rn_icmp_gt (t := 29) rfl dX11_days_8, Rm_aload_n (k := 0) rfl dX11_days_11, Rm_getfield fl_11_68 dX11_days_12, Rm_getfield fl_11_141 dX11_days_15, Rm_iload_n (k := 1) rfl dX11_days_18, Rn_bipush (v := jI (24)) rfl dX11_days_19, Rn_imul dX11_days_21, Rn_iadd dX11_days_22, Rn_sipush (v := jI (9999)) rfl dX11_days_23, Rn_icmp_le (t := 35) rfl dX11_days_26, Rm_aload_n (k := 0) rfl dX11_days_29, Rn_iconst (v := jI (2)) rfl dX11_days_30, Rm_inV1 (d := dX11_days_31) (hy := mo_122) (h13 := rfl) ml_11_107 rfl, Rn_ireturn (ty := .int) rfl dX11_days_34, gs7_0 k44, gs11_9 k8, io11 k8, io11 k8, er, qI_s, qJ_s, qR_s, qV_s, qX_s, qN_s, qW_s, qF_s, qC_s, Option.bind_some, Option.bind_none, Nat.reduceAdd, Nat.reduceBEq, Nat.reduceEqDiff, lk_nil, lk_cons, lk_pt1, lk_pt2i, isJ_i, isJ_r, isJ_l, gI_i, gJ_i, gR_i, Bool.false_eq_true, if_true, if_false, ite_true, ite_false, ↓reduceIte, len4_0, len4_1, len4_2, len4_3, len4_4, Option.toList_some, Option.toList_none, List.cons_append, List.nil_append, va_rf_s, up_hp, ofI_j, jI_add, jI_sub, jI_mul, jI_neg, jL_add, jL_sub, jL_mul, jI_jL, jL_jI, nar_i, nar_zj, lt_t, lt_f, le_t, le_f, eq_t, eq_f, ez_t, ez_f, lz_t, lz_f, gz_t, gz_f, nz_t, nz_f, pz_t, pz_f, lgc_gt, lgc_lt, lgc_ge, lgc_le, lgc_eq, Lt_t, Lt_f, Le_t, Le_f, Eq_t, Eq_f, dv_j, not_true_eq_false, not_false_eq_true, Int.reduceEq, Int.reduceAdd, Int.reduceSub, Int.reduceMul, Int.reduceNeg, Ez_t, Ez_f, dv_L, false_and, true_and, and_true, and_false]
    · simp (disch := omega) only [Rm_iload_n (k := 1) rfl dX11_days_0, Rn_iconst (v := jI (1)) rfl dX11_days_1, Rn_icmp_lt (t := 29) rfl dX11_days_2, Rm_iload_n (k := 1) rfl dX11_days_5, Rn_bipush (v := jI (20)) rfl dX11_days_6, Rn_icmp_gt (t := 29) rfl dX11_days_8, Rm_aload_n (k := 0) rfl dX11_days_11, Rm_getfield fl_11_68 dX11_days_12, Rm_getfield fl_11_141 dX11_days_15, Rm_iload_n (k := 1) rfl dX11_days_18, Rn_bipush (v := jI (24)) rfl dX11_days_19, Rn_imul dX11_days_21, Rn_iadd dX11_days_22, Rn_sipush (v := jI (9999)) rfl dX11_days_23, Rn_icmp_le (t := 35) rfl dX11_days_26, Rm_aload_n (k := 0) rfl dX11_days_29, Rn_iconst (v := jI (2)) rfl dX11_days_30, Rm_inV1 (d := dX11_days_31) (hy := mo_122) (h13 := rfl) ml_11_107 rfl, Rn_ireturn (ty := .int) rfl dX11_days_34, gs7_0 k44, gs11_9 k8, io11 k8, io11 k8, er, qI_s, qJ_s, qR_s, qV_s, qX_s, qN_s, qW_s, qF_s, qC_s, Option.bind_some, Option.bind_none, Nat.reduceAdd, Nat.reduceBEq, Nat.reduceEqDiff, lk_nil, lk_cons, lk_pt1, lk_pt2i, isJ_i, isJ_r, isJ_l, gI_i, gJ_i, gR_i, Bool.false_eq_true, if_true, if_false, ite_true, ite_false, ↓reduceIte, len4_0, len4_1, len4_2, len4_3, len4_4, Option.toList_some, Option.toList_none, List.cons_append, List.nil_append, va_rf_s, up_hp, ofI_j, jI_add, jI_sub, jI_mul, jI_neg, jL_add, jL_sub, jL_mul, jI_jL, jL_jI, nar_i, nar_zj, lt_t, lt_f, le_t, le_f, eq_t, eq_f, ez_t, ez_f, lz_t, lz_f, gz_t, gz_f, nz_t, nz_f, pz_t, pz_f, lgc_gt, lgc_lt, lgc_ge, lgc_le, lgc_eq, Lt_t, Lt_f, Le_t, Le_f, Eq_t, Eq_f, dv_j, not_true_eq_false, not_false_eq_true, Int.reduceEq, Int.reduceAdd, Int.reduceSub, Int.reduceMul, Int.reduceNeg, Ez_t, Ez_f, dv_L, false_and, true_and, and_true, and_false]
end

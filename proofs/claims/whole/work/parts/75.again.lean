/-! calls: again, of the class -/
def AL (T : TT) (s1 s2 : Ss) : Prop := (∀ p m : Int, 0 ≤ p → p < np T → 0 ≤ m → m < nm T → sn s1 p m = sn s2 p m ∧ sf s1 p m = sf s2 p m) ∧ ∀ l m : Int, 0 ≤ l → l < nl T → 0 ≤ m → m < nm T → sb s1 l m = sb s2 l m
def dwn (T : TT) (s : Ss) (k : Nat) : Ss := hoursF T (24 * k) s
theorem hoursF_add (T : TT) (a b : Nat) (s : Ss) : hoursF T (a + b) s = hoursF T a (hoursF T b s) := by
  induction a with
  | zero => rw [Nat.zero_add]; rfl
  | succ a ih => rw [show a + 1 + b = (a + b) + 1 by omega, hoursF_s, hoursF_s, ih]
theorem dwn_s (T : TT) (s : Ss) (k : Nat) : dwn T s (k + 1) = hoursF T 24 (dwn T s k) := by
  unfold dwn
  rw [show 24 * (k + 1) = 24 + 24 * k by omega, hoursF_add]
def AV (T : TT) (s : Ss) (w v : Int) : Prop := (¬ (w = 0 ∨ w = 1) → v = -1) ∧ (w = 0 ∨ w = 1 → (v = -1 ∧ ∀ k j : Nat, j < k → k ≤ 8 → sh s + 24 * k ≤ 9999 → ¬ AL T (dwn T s k) (dwn T s j)) ∨ ∃ k j : Nat, (j < k ∧ k ≤ 8 ∧ sh s + 24 * k ≤ 9999) ∧ AL T (dwn T s k) (dwn T s j) ∧ (∀ k' j' : Nat, k' < k → j' < k' → ¬ AL T (dwn T s k') (dwn T s j')) ∧ (∀ j' : Nat, j' < j → ¬ AL T (dwn T s k) (dwn T s j')) ∧ v = if w = 0 then (k : Int) else k - j)
theorem AV_uniq {T : TT} {s : Ss} {w v v' : Int} (h : AV T s w v) (h' : AV T s w v') : v = v' := by
  by_cases q : w = 0 ∨ w = 1
  · rcases h.2 q with ⟨rfl, a⟩ | ⟨k, j, ⟨a0, a1, a2⟩, a3, a4, a5, rfl⟩ <;> rcases h'.2 q with ⟨rfl, b⟩ | ⟨k', j', ⟨b0, b1, b2⟩, b3, b4, b5, rfl⟩
    · rfl
    · exact absurd b3 (a k' j' b0 b1 b2)
    · exact absurd a3 (b k j a0 a1 a2)
    · have e : k = k' := by
        rcases Nat.lt_trichotomy k k' with q | q | q
        · exact absurd a3 (b4 k j q a0)
        · exact q
        · exact absurd b3 (a4 k' j' q b0)
      subst e
      have e : j = j' := by
        rcases Nat.lt_trichotomy j j' with q | q | q
        · exact absurd a3 (b5 j q)
        · exact q
        · exact absurd b3 (a5 j' q)
      subst e
      rfl
  · rw [h.1 q, h'.1 q]
theorem Ina_em {N mo : Nat} (hm : mo ≤ 4) {i : Int} (h0 : 0 ≤ i) : Ina N mo i ∨ ∃ p m : Int, (0 ≤ p ∧ p < N ∧ 0 ≤ m ∧ m < mo) ∧ i = p * 4 + m := by
  by_cases q : i / 4 < N ∧ i % 4 < mo
  · exact Or.inr ⟨i / 4, i % 4, by omega, by omega⟩
  · exact Or.inl (fun p m p0 p1 m0 m1 e => q (by omega))
section
variable {n z t : Nat} {T : TT} {s : Ss} {H : Nat → AC} {M : Me}
set_option maxHeartbeats 4000000 in
theorem s_areLike2 {x y L : Nat} (kx : kd x = 21) (lx : ln x = L) (ky : kd y = 21) (ly : ln y = L) (bE : ∀ i : Nat, i < L → M x i = M y i ∨ ((-1000000 ≤ M x i ∧ M x i ≤ 1000000) ∧ -1000000 ≤ M y i ∧ M y i ≤ 1000000)) (d : Nat) :
    ((∀ i : Nat, i < L → M x i = M y i) → X (d + 1) 62 [.ref x, .ref y] (n, z, hp H M) = some (some (.int (jI 1)), (n, z, hp H M))) ∧ ((¬ ∀ i : Nat, i < L → M x i = M y i) → X (d + 1) 62 [.ref x, .ref y] (n, z, hp H M) = some (some (.int (jI 0)), (n, z, hp H M))) := by
  have b0 := ln_le x
  have key : ∀ G : Option Rs → Prop, ((∀ i : Nat, i < L → M x i = M y i) → G (some (some (.int (jI 1)), (n, z, hp H M)))) → ((¬ ∀ i : Nat, i < L → M x i = M y i) → G (some (some (.int (jI 0)), (n, z, hp H M)))) → G (X (d + 1) 62 [.ref x, .ref y] (n, z, hp H M)) := by
    intro G g1 g0
    rw [Xe_X7_areLike]
    simp (disch := omega) only [Rn_iconst (v := jI (0)) rfl dX7_areLike_0, Rn_istore_n (k := 2) (nL := 3) rfl rfl dX7_areLike_1, qI_s, qJ_s, qR_s, qV_s, qX_s, qN_s, qW_s, qF_s, qC_s, Option.bind_some, Option.bind_none, Nat.reduceAdd, Nat.reduceBEq, Nat.reduceEqDiff, lk_nil, lk_cons, lk_pt1, lk_pt2i, isJ_i, isJ_r, isJ_l, gI_i, gJ_i, gR_i, Bool.false_eq_true, if_true, if_false, ite_true, ite_false, ↓reduceIte, len4_0, len4_1, len4_2, len4_3, len4_4, Option.toList_some, Option.toList_none, List.cons_append, List.nil_append, va_rf_s, up_hp, ofI_j, jI_add, jI_sub, jI_mul, jI_neg, jL_add, jL_sub, jL_mul, jI_jL, jL_jI, nar_i, nar_zj, lt_t, lt_f, le_t, le_f, eq_t, eq_f, ez_t, ez_f, lz_t, lz_f, gz_t, gz_f, nz_t, nz_f, pz_t, pz_f, lgc_gt, lgc_lt, lgc_ge, lgc_le, lgc_eq, Lt_t, Lt_f, Le_t, Le_f, Eq_t, Eq_f, dv_j, not_true_eq_false, not_false_eq_true, Int.reduceEq, Int.reduceAdd, Int.reduceSub, Int.reduceMul, Int.reduceNeg, Ez_t, Ez_f, dv_L, false_and, true_and, and_true, and_false]
    refine Rn_for L (fun j l1 M1 => M1 = M ∧ (∀ i : Nat, i < j → M x i = M y i) ∧ lk l1 0 = some (.ref x) ∧ lk l1 1 = some (.ref y) ∧ lk l1 2 = some (.int (jI j))) G ?_ ?_ 0 (Nat.zero_le _) _ _ ?_
    · rintro j hj l1 M1 ⟨rfl, hE, q0, q1, q2⟩ ih
      rw [Rm_iload_n (k := 2) rfl dX7_areLike_2]
      by_cases q : M1 x j = M1 y j
      · simp (disch := omega) only [Rm_aload_n (k := 0) rfl dX7_areLike_3, Rm_arraylength dX7_areLike_4, Rn_icmp_ge (t := 31) rfl dX7_areLike_5, Rm_iload_n (k := 2) rfl dX7_areLike_8, Rm_aload_n (k := 1) rfl dX7_areLike_9, Rm_arraylength dX7_areLike_10, Rn_icmp_ge (t := 31) rfl dX7_areLike_11, Rm_aload_n (k := 0) rfl dX7_areLike_14, Rm_iload_n (k := 2) rfl dX7_areLike_15, Rm_iaload dX7_areLike_16, Rm_aload_n (k := 1) rfl dX7_areLike_17, Rm_iload_n (k := 2) rfl dX7_areLike_18, Rm_iaload dX7_areLike_19, Rn_icmp_eq (t := 25) rfl dX7_areLike_20, Rn_iconst (v := jI (0)) rfl dX7_areLike_23, Rn_ireturn (ty := .boolean) rfl dX7_areLike_24, Rm_iinc (nL := 3) rfl dX7_areLike_25, Rn_goto (t := 2) rfl dX7_areLike_28, rdM kx lx, rdM ky ly, alM kx lx, alM ky ly, qI_s, qJ_s, qR_s, qV_s, qX_s, qN_s, qW_s, qF_s, qC_s, Option.bind_some, Option.bind_none, Nat.reduceAdd, Nat.reduceBEq, Nat.reduceEqDiff, lk_nil, lk_cons, lk_pt1, lk_pt2i, isJ_i, isJ_r, isJ_l, gI_i, gJ_i, gR_i, Bool.false_eq_true, if_true, if_false, ite_true, ite_false, ↓reduceIte, len4_0, len4_1, len4_2, len4_3, len4_4, Option.toList_some, Option.toList_none, List.cons_append, List.nil_append, va_rf_s, up_hp, ofI_j, jI_add, jI_sub, jI_mul, jI_neg, jL_add, jL_sub, jL_mul, jI_jL, jL_jI, nar_i, nar_zj, lt_t, lt_f, le_t, le_f, eq_t, eq_f, ez_t, ez_f, lz_t, lz_f, gz_t, gz_f, nz_t, nz_f, pz_t, pz_f, lgc_gt, lgc_lt, lgc_ge, lgc_le, lgc_eq, Lt_t, Lt_f, Le_t, Le_f, Eq_t, Eq_f, dv_j, not_true_eq_false, not_false_eq_true, Int.reduceEq, Int.reduceAdd, Int.reduceSub, Int.reduceMul, Int.reduceNeg, Ez_t, Ez_f, dv_L, false_and, true_and, and_true, and_false, q0, q1, q2, q]
        refine ih _ _ ⟨rfl, fun i hi => ?_, by simp [Option.bind_some, Option.bind_none, Nat.reduceAdd, Nat.reduceBEq, Nat.reduceEqDiff, lk_nil, lk_cons, lk_pt1, lk_pt2, lk_pt2b, isJ_i, isJ_r, isJ_l, gI_i, gJ_i, gR_i, Bool.false_eq_true, if_true, if_false, ite_true, ite_false, reduceIte, len4_0, len4_1, len4_2, len4_3, len4_4, Option.toList_some, Option.toList_none, List.cons_append, List.nil_append, gf_o, isO_o, pf_o, List.length_cons, List.length_nil, List.getElem?_cons_zero, List.getElem?_cons_succ, List.set_cons_zero, List.set_cons_succ, va_rf_s, up_self, rdi_a, rdi_5, rdi_0, rdi_4, wri_a, rdl_a, wrl_a, rdr_a, wrr_a, aln_0, aln_1, aln_3, aln_4, aln_5, ofI_1, ofI_m1, q0], by simp [Option.bind_some, Option.bind_none, Nat.reduceAdd, Nat.reduceBEq, Nat.reduceEqDiff, lk_nil, lk_cons, lk_pt1, lk_pt2, lk_pt2b, isJ_i, isJ_r, isJ_l, gI_i, gJ_i, gR_i, Bool.false_eq_true, if_true, if_false, ite_true, ite_false, reduceIte, len4_0, len4_1, len4_2, len4_3, len4_4, Option.toList_some, Option.toList_none, List.cons_append, List.nil_append, gf_o, isO_o, pf_o, List.length_cons, List.length_nil, List.getElem?_cons_zero, List.getElem?_cons_succ, List.set_cons_zero, List.set_cons_succ, va_rf_s, up_self, rdi_a, rdi_5, rdi_0, rdi_4, wri_a, rdl_a, wrl_a, rdr_a, wrr_a, aln_0, aln_1, aln_3, aln_4, aln_5, ofI_1, ofI_m1, q1], by simp [Option.bind_some, Option.bind_none, Nat.reduceAdd, Nat.reduceBEq, Nat.reduceEqDiff, lk_nil, lk_cons, lk_pt1, lk_pt2, lk_pt2b, isJ_i, isJ_r, isJ_l, gI_i, gJ_i, gR_i, Bool.false_eq_true, if_true, if_false, ite_true, ite_false, reduceIte, len4_0, len4_1, len4_2, len4_3, len4_4, Option.toList_some, Option.toList_none, List.cons_append, List.nil_append, gf_o, isO_o, pf_o, List.length_cons, List.length_nil, List.getElem?_cons_zero, List.getElem?_cons_succ, List.set_cons_zero, List.set_cons_succ, va_rf_s, up_self, rdi_a, rdi_5, rdi_0, rdi_4, wri_a, rdl_a, wrl_a, rdr_a, wrr_a, aln_0, aln_1, aln_3, aln_4, aln_5, ofI_1, ofI_m1]⟩
        by_cases e : i = j
        · subst e; exact q
        · exact hE i (by omega)
      · obtain ⟨bxj, byj⟩ := (bE j hj).resolve_left q
        simp (disch := omega) only [Rm_aload_n (k := 0) rfl dX7_areLike_3, Rm_arraylength dX7_areLike_4, Rn_icmp_ge (t := 31) rfl dX7_areLike_5, Rm_iload_n (k := 2) rfl dX7_areLike_8, Rm_aload_n (k := 1) rfl dX7_areLike_9, Rm_arraylength dX7_areLike_10, Rn_icmp_ge (t := 31) rfl dX7_areLike_11, Rm_aload_n (k := 0) rfl dX7_areLike_14, Rm_iload_n (k := 2) rfl dX7_areLike_15, Rm_iaload dX7_areLike_16, Rm_aload_n (k := 1) rfl dX7_areLike_17, Rm_iload_n (k := 2) rfl dX7_areLike_18, Rm_iaload dX7_areLike_19, Rn_icmp_eq (t := 25) rfl dX7_areLike_20, Rn_iconst (v := jI (0)) rfl dX7_areLike_23, Rn_ireturn (ty := .boolean) rfl dX7_areLike_24, Rm_iinc (nL := 3) rfl dX7_areLike_25, Rn_goto (t := 2) rfl dX7_areLike_28, rdM kx lx, rdM ky ly, alM kx lx, alM ky ly, qI_s, qJ_s, qR_s, qV_s, qX_s, qN_s, qW_s, qF_s, qC_s, Option.bind_some, Option.bind_none, Nat.reduceAdd, Nat.reduceBEq, Nat.reduceEqDiff, lk_nil, lk_cons, lk_pt1, lk_pt2i, isJ_i, isJ_r, isJ_l, gI_i, gJ_i, gR_i, Bool.false_eq_true, if_true, if_false, ite_true, ite_false, ↓reduceIte, len4_0, len4_1, len4_2, len4_3, len4_4, Option.toList_some, Option.toList_none, List.cons_append, List.nil_append, va_rf_s, up_hp, ofI_j, jI_add, jI_sub, jI_mul, jI_neg, jL_add, jL_sub, jL_mul, jI_jL, jL_jI, nar_i, nar_zj, lt_t, lt_f, le_t, le_f, eq_t, eq_f, ez_t, ez_f, lz_t, lz_f, gz_t, gz_f, nz_t, nz_f, pz_t, pz_f, lgc_gt, lgc_lt, lgc_ge, lgc_le, lgc_eq, Lt_t, Lt_f, Le_t, Le_f, Eq_t, Eq_f, dv_j, not_true_eq_false, not_false_eq_true, Int.reduceEq, Int.reduceAdd, Int.reduceSub, Int.reduceMul, Int.reduceNeg, Ez_t, Ez_f, dv_L, false_and, true_and, and_true, and_false, q0, q1, q2]
        exact g0 (fun h => q (h j hj))
    · rintro l1 M1 ⟨rfl, hE, q0, q1, q2⟩
      rw [Rm_iload_n (k := 2) rfl dX7_areLike_2]
      simp (disch := omega) only [Rm_aload_n (k := 0) rfl dX7_areLike_3, Rm_arraylength dX7_areLike_4, Rn_icmp_ge (t := 31) rfl dX7_areLike_5, Rm_iload_n (k := 2) rfl dX7_areLike_8, Rm_aload_n (k := 1) rfl dX7_areLike_9, Rm_arraylength dX7_areLike_10, Rn_icmp_ge (t := 31) rfl dX7_areLike_11, Rm_aload_n (k := 0) rfl dX7_areLike_14, Rm_iload_n (k := 2) rfl dX7_areLike_15, Rm_iaload dX7_areLike_16, Rm_aload_n (k := 1) rfl dX7_areLike_17, Rm_iload_n (k := 2) rfl dX7_areLike_18, Rm_iaload dX7_areLike_19, Rn_icmp_eq (t := 25) rfl dX7_areLike_20, Rn_iconst (v := jI (0)) rfl dX7_areLike_23, Rn_ireturn (ty := .boolean) rfl dX7_areLike_24, Rm_iinc (nL := 3) rfl dX7_areLike_25, Rn_goto (t := 2) rfl dX7_areLike_28, Rn_iconst (v := jI (1)) rfl dX7_areLike_31, Rn_ireturn (ty := .boolean) rfl dX7_areLike_32, rdM kx lx, rdM ky ly, alM kx lx, alM ky ly, qI_s, qJ_s, qR_s, qV_s, qX_s, qN_s, qW_s, qF_s, qC_s, Option.bind_some, Option.bind_none, Nat.reduceAdd, Nat.reduceBEq, Nat.reduceEqDiff, lk_nil, lk_cons, lk_pt1, lk_pt2i, isJ_i, isJ_r, isJ_l, gI_i, gJ_i, gR_i, Bool.false_eq_true, if_true, if_false, ite_true, ite_false, ↓reduceIte, len4_0, len4_1, len4_2, len4_3, len4_4, Option.toList_some, Option.toList_none, List.cons_append, List.nil_append, va_rf_s, up_hp, ofI_j, jI_add, jI_sub, jI_mul, jI_neg, jL_add, jL_sub, jL_mul, jI_jL, jL_jI, nar_i, nar_zj, lt_t, lt_f, le_t, le_f, eq_t, eq_f, ez_t, ez_f, lz_t, lz_f, gz_t, gz_f, nz_t, nz_f, pz_t, pz_f, lgc_gt, lgc_lt, lgc_ge, lgc_le, lgc_eq, Lt_t, Lt_f, Le_t, Le_f, Eq_t, Eq_f, dv_j, not_true_eq_false, not_false_eq_true, Int.reduceEq, Int.reduceAdd, Int.reduceSub, Int.reduceMul, Int.reduceNeg, Ez_t, Ez_f, dv_L, false_and, true_and, and_true, and_false, q0, q1, q2]
      exact g1 hE
    · exact ⟨rfl, fun i hi => absurd hi (by omega), by simp [Option.bind_some, Option.bind_none, Nat.reduceAdd, Nat.reduceBEq, Nat.reduceEqDiff, lk_nil, lk_cons, lk_pt1, lk_pt2, lk_pt2b, isJ_i, isJ_r, isJ_l, gI_i, gJ_i, gR_i, Bool.false_eq_true, if_true, if_false, ite_true, ite_false, reduceIte, len4_0, len4_1, len4_2, len4_3, len4_4, Option.toList_some, Option.toList_none, List.cons_append, List.nil_append, gf_o, isO_o, pf_o, List.length_cons, List.length_nil, List.getElem?_cons_zero, List.getElem?_cons_succ, List.set_cons_zero, List.set_cons_succ, va_rf_s, up_self, rdi_a, rdi_5, rdi_0, rdi_4, wri_a, rdl_a, wrl_a, rdr_a, wrr_a, aln_0, aln_1, aln_3, aln_4, aln_5, ofI_1, ofI_m1], by simp [Option.bind_some, Option.bind_none, Nat.reduceAdd, Nat.reduceBEq, Nat.reduceEqDiff, lk_nil, lk_cons, lk_pt1, lk_pt2, lk_pt2b, isJ_i, isJ_r, isJ_l, gI_i, gJ_i, gR_i, Bool.false_eq_true, if_true, if_false, ite_true, ite_false, reduceIte, len4_0, len4_1, len4_2, len4_3, len4_4, Option.toList_some, Option.toList_none, List.cons_append, List.nil_append, gf_o, isO_o, pf_o, List.length_cons, List.length_nil, List.getElem?_cons_zero, List.getElem?_cons_succ, List.set_cons_zero, List.set_cons_succ, va_rf_s, up_self, rdi_a, rdi_5, rdi_0, rdi_4, wri_a, rdl_a, wrl_a, rdr_a, wrr_a, aln_0, aln_1, aln_3, aln_4, aln_5, ofI_1, ofI_m1], by simp [Option.bind_some, Option.bind_none, Nat.reduceAdd, Nat.reduceBEq, Nat.reduceEqDiff, lk_nil, lk_cons, lk_pt1, lk_pt2, lk_pt2b, isJ_i, isJ_r, isJ_l, gI_i, gJ_i, gR_i, Bool.false_eq_true, if_true, if_false, ite_true, ite_false, reduceIte, len4_0, len4_1, len4_2, len4_3, len4_4, Option.toList_some, Option.toList_none, List.cons_append, List.nil_append, gf_o, isO_o, pf_o, List.length_cons, List.length_nil, List.getElem?_cons_zero, List.getElem?_cons_succ, List.set_cons_zero, List.set_cons_succ, va_rf_s, up_self, rdi_a, rdi_5, rdi_0, rdi_4, wri_a, rdl_a, wrl_a, rdr_a, wrr_a, aln_0, aln_1, aln_3, aln_4, aln_5, ofI_1, ofI_m1]⟩
  exact ⟨fun h => key (fun r => r = _) (fun _ => rfl) (fun q => absurd h q), fun h => key (fun r => r = _) (fun q => absurd q h) (fun _ => rfl)⟩
/-- what is not of the town is alike in two States -/
def InE (T : TT) (M : Me) (a b : Nat) : Prop := (∀ i : Int, 0 ≤ i → i < 32 → Ina (np T) (nm T) i → M (a + 1) i = M (b + 1) i ∧ M (a + 2) i = M (b + 2) i) ∧ ∀ i : Int, 0 ≤ i → i < 24 → Ina (nl T) (nm T) i → M (a + 3) i = M (b + 3) i
set_option maxHeartbeats 4000000 in
theorem s_isLike {a b : Nat} {s1 s2 : Ss} (ha : kd a = 7) (hb : kd b = 7) (wT : wfT T) (h1 : SR T M a s1) (h2 : SR T M b s2) (w1 : wfS T s1) (w2 : wfS T s2) (hI : InE T M a b) (d : Nat) :
    (AL T s1 s2 → X (d + 2) 60 [.ref a, .ref b] (n, z, hp H M) = some (some (.int (jI 1)), (n, z, hp H M))) ∧ (¬ AL T s1 s2 → X (d + 2) 60 [.ref a, .ref b] (n, z, hp H M) = some (some (.int (jI 0)), (n, z, hp H M))) := by
  obtain ⟨wm, wp, wl, -⟩ := id wT
  obtain ⟨a1, a0⟩ := s_areLike2 (n := n) (z := z) (H := H) (M := M) (ka7_1 ha) (la7_1 ha) (ka7_1 hb) (la7_1 hb) (fun i hi => by
    rcases Ina_em (N := np T) wm (i := (i : Int)) (by omega) with q | ⟨p, m, ⟨q1, q2, q3, q4⟩, e⟩
    · exact Or.inl (hI.1 _ (by omega) (by omega) q).1
    · have := w1.2.1 p m q1 q2 q3 q4
      have := w2.2.1 p m q1 q2 q3 q4
      rw [e, (h1.2.1 p m q1 q2 q3 q4).1, (h2.2.1 p m q1 q2 q3 q4).1]
      exact Or.inr (by omega)) d
  obtain ⟨b1, b0⟩ := s_areLike2 (n := n) (z := z) (H := H) (M := M) (ka7_2 ha) (la7_2 ha) (ka7_2 hb) (la7_2 hb) (fun i hi => by
    rcases Ina_em (N := np T) wm (i := (i : Int)) (by omega) with q | ⟨p, m, ⟨q1, q2, q3, q4⟩, e⟩
    · exact Or.inl (hI.1 _ (by omega) (by omega) q).2
    · have := w1.2.1 p m q1 q2 q3 q4
      have := w2.2.1 p m q1 q2 q3 q4
      rw [e, (h1.2.1 p m q1 q2 q3 q4).2, (h2.2.1 p m q1 q2 q3 q4).2]
      exact Or.inr (by omega)) d
  obtain ⟨c1, c0⟩ := s_areLike2 (n := n) (z := z) (H := H) (M := M) (ka7_3 ha) (la7_3 ha) (ka7_3 hb) (la7_3 hb) (fun i hi => by
    rcases Ina_em (N := nl T) wm (i := (i : Int)) (by omega) with q | ⟨p, m, ⟨q1, q2, q3, q4⟩, e⟩
    · exact Or.inl (hI.2 _ (by omega) (by omega) q)
    · have := w1.2.2.1 p m q1 q2 q3 q4
      have := w2.2.2.1 p m q1 q2 q3 q4
      rw [e, h1.2.2.1 p m q1 q2 q3 q4, h2.2.2.1 p m q1 q2 q3 q4]
      exact Or.inr (by omega)) d
  have eN : (∀ i : Nat, i < 32 → M (a + 1) i = M (b + 1) i) ↔ ∀ p m : Int, 0 ≤ p → p < np T → 0 ≤ m → m < nm T → sn s1 p m = sn s2 p m := by
    constructor
    · intro h p m p0 p1 m0 m1
      have := h (p * 4 + m).toNat (by omega)
      rw [Int.toNat_of_nonneg (by omega), (h1.2.1 p m p0 p1 m0 m1).1, (h2.2.1 p m p0 p1 m0 m1).1] at this
      exact this
    · intro h i hi
      rcases Ina_em (N := np T) wm (i := (i : Int)) (by omega) with q | ⟨p, m, ⟨q1, q2, q3, q4⟩, e⟩
      · exact (hI.1 _ (by omega) (by omega) q).1
      · rw [e, (h1.2.1 p m q1 q2 q3 q4).1, (h2.2.1 p m q1 q2 q3 q4).1]; exact h p m q1 q2 q3 q4
  have eF : (∀ i : Nat, i < 32 → M (a + 2) i = M (b + 2) i) ↔ ∀ p m : Int, 0 ≤ p → p < np T → 0 ≤ m → m < nm T → sf s1 p m = sf s2 p m := by
    constructor
    · intro h p m p0 p1 m0 m1
      have := h (p * 4 + m).toNat (by omega)
      rw [Int.toNat_of_nonneg (by omega), (h1.2.1 p m p0 p1 m0 m1).2, (h2.2.1 p m p0 p1 m0 m1).2] at this
      exact this
    · intro h i hi
      rcases Ina_em (N := np T) wm (i := (i : Int)) (by omega) with q | ⟨p, m, ⟨q1, q2, q3, q4⟩, e⟩
      · exact (hI.1 _ (by omega) (by omega) q).2
      · rw [e, (h1.2.1 p m q1 q2 q3 q4).2, (h2.2.1 p m q1 q2 q3 q4).2]; exact h p m q1 q2 q3 q4
  have eB : (∀ i : Nat, i < 24 → M (a + 3) i = M (b + 3) i) ↔ ∀ p m : Int, 0 ≤ p → p < nl T → 0 ≤ m → m < nm T → sb s1 p m = sb s2 p m := by
    constructor
    · intro h p m p0 p1 m0 m1
      have := h (p * 4 + m).toNat (by omega)
      rw [Int.toNat_of_nonneg (by omega), h1.2.2.1 p m p0 p1 m0 m1, h2.2.2.1 p m p0 p1 m0 m1] at this
      exact this
    · intro h i hi
      rcases Ina_em (N := nl T) wm (i := (i : Int)) (by omega) with q | ⟨p, m, ⟨q1, q2, q3, q4⟩, e⟩
      · exact hI.2 _ (by omega) (by omega) q
      · rw [e, h1.2.2.1 p m q1 q2 q3 q4, h2.2.2.1 p m q1 q2 q3 q4]; exact h p m q1 q2 q3 q4
  rw [eN] at a1 a0
  rw [eF] at b1 b0
  rw [eB] at c1 c0
  rw [Xe_X7_isLike]
  constructor
  · rintro ⟨h3, h4⟩
    have x1 := a1 (fun p m p0 p1 m0 m1 => (h3 p m p0 p1 m0 m1).1)
    have x2 := b1 (fun p m p0 p1 m0 m1 => (h3 p m p0 p1 m0 m1).2)
    have x3 := c1 h4
    simp (disch := omega) only [Rm_aload_n (k := 0) rfl dX7_isLike_0, Rm_getfield fl_7_9 dX7_isLike_1, Rm_aload_n (k := 1) rfl dX7_isLike_4, Rm_getfield fl_7_9 dX7_isLike_5, Rm_inS2 (d := dX7_isLike_8) ml_7_45 rfl, Rn_if_eq (t := 46) rfl dX7_isLike_11, Rm_aload_n (k := 0) rfl dX7_isLike_14, Rm_getfield fl_7_15 dX7_isLike_15, Rm_aload_n (k := 1) rfl dX7_isLike_18, Rm_getfield fl_7_15 dX7_isLike_19, Rm_inS2 (d := dX7_isLike_22) ml_7_45 rfl, Rn_if_eq (t := 46) rfl dX7_isLike_25, Rm_aload_n (k := 0) rfl dX7_isLike_28, Rm_getfield fl_7_21 dX7_isLike_29, Rm_aload_n (k := 1) rfl dX7_isLike_32, Rm_getfield fl_7_21 dX7_isLike_33, Rm_inS2 (d := dX7_isLike_36) ml_7_45 rfl, Rn_if_eq (t := 46) rfl dX7_isLike_39, Rn_iconst (v := jI (1)) rfl dX7_isLike_42, Rn_goto (t := 47) rfl dX7_isLike_43, Rn_iconst (v := jI (0)) rfl dX7_isLike_46, Rn_ireturn (ty := .boolean) rfl dX7_isLike_47, gs7_1 ha, rdM (ka7_1 ha) (la7_1 ha), wrM (ka7_1 ha) (la7_1 ha), alM (ka7_1 ha) (la7_1 ha), gs7_1 hb, rdM (ka7_1 hb) (la7_1 hb), wrM (ka7_1 hb) (la7_1 hb), alM (ka7_1 hb) (la7_1 hb), gs7_2 ha, rdM (ka7_2 ha) (la7_2 ha), wrM (ka7_2 ha) (la7_2 ha), alM (ka7_2 ha) (la7_2 ha), gs7_2 hb, rdM (ka7_2 hb) (la7_2 hb), wrM (ka7_2 hb) (la7_2 hb), alM (ka7_2 hb) (la7_2 hb), gs7_3 ha, rdM (ka7_3 ha) (la7_3 ha), wrM (ka7_3 ha) (la7_3 ha), alM (ka7_3 ha) (la7_3 ha), gs7_3 hb, rdM (ka7_3 hb) (la7_3 hb), wrM (ka7_3 hb) (la7_3 hb), alM (ka7_3 hb) (la7_3 hb), x1, x2, x3, qI_s, qJ_s, qR_s, qV_s, qX_s, qN_s, qW_s, qF_s, qC_s, Option.bind_some, Option.bind_none, Nat.reduceAdd, Nat.reduceBEq, Nat.reduceEqDiff, lk_nil, lk_cons, lk_pt1, lk_pt2i, isJ_i, isJ_r, isJ_l, gI_i, gJ_i, gR_i, Bool.false_eq_true, if_true, if_false, ite_true, ite_false, ↓reduceIte, len4_0, len4_1, len4_2, len4_3, len4_4, Option.toList_some, Option.toList_none, List.cons_append, List.nil_append, va_rf_s, up_hp, ofI_j, jI_add, jI_sub, jI_mul, jI_neg, jL_add, jL_sub, jL_mul, jI_jL, jL_jI, nar_i, nar_zj, lt_t, lt_f, le_t, le_f, eq_t, eq_f, ez_t, ez_f, lz_t, lz_f, gz_t, gz_f, nz_t, nz_f, pz_t, pz_f, lgc_gt, lgc_lt, lgc_ge, lgc_le, lgc_eq, Lt_t, Lt_f, Le_t, Le_f, Eq_t, Eq_f, dv_j, not_true_eq_false, not_false_eq_true, Int.reduceEq, Int.reduceAdd, Int.reduceSub, Int.reduceMul, Int.reduceNeg, Ez_t, Ez_f, dv_L, false_and, true_and, and_true, and_false]
  · intro h
    by_cases g1 : ∀ p m : Int, 0 ≤ p → p < np T → 0 ≤ m → m < nm T → sn s1 p m = sn s2 p m
    · have x1 := a1 g1
      by_cases g2 : ∀ p m : Int, 0 ≤ p → p < np T → 0 ≤ m → m < nm T → sf s1 p m = sf s2 p m
      · have x2 := b1 g2
        have x3 := c0 (fun h4 => h ⟨fun p m p0 p1 m0 m1 => ⟨g1 p m p0 p1 m0 m1, g2 p m p0 p1 m0 m1⟩, h4⟩)
        simp (disch := omega) only [Rm_aload_n (k := 0) rfl dX7_isLike_0, Rm_getfield fl_7_9 dX7_isLike_1, Rm_aload_n (k := 1) rfl dX7_isLike_4, Rm_getfield fl_7_9 dX7_isLike_5, Rm_inS2 (d := dX7_isLike_8) ml_7_45 rfl, Rn_if_eq (t := 46) rfl dX7_isLike_11, Rm_aload_n (k := 0) rfl dX7_isLike_14, Rm_getfield fl_7_15 dX7_isLike_15, Rm_aload_n (k := 1) rfl dX7_isLike_18, Rm_getfield fl_7_15 dX7_isLike_19, Rm_inS2 (d := dX7_isLike_22) ml_7_45 rfl, Rn_if_eq (t := 46) rfl dX7_isLike_25, Rm_aload_n (k := 0) rfl dX7_isLike_28, Rm_getfield fl_7_21 dX7_isLike_29, Rm_aload_n (k := 1) rfl dX7_isLike_32, Rm_getfield fl_7_21 dX7_isLike_33, Rm_inS2 (d := dX7_isLike_36) ml_7_45 rfl, Rn_if_eq (t := 46) rfl dX7_isLike_39, Rn_iconst (v := jI (1)) rfl dX7_isLike_42, Rn_goto (t := 47) rfl dX7_isLike_43, Rn_iconst (v := jI (0)) rfl dX7_isLike_46, Rn_ireturn (ty := .boolean) rfl dX7_isLike_47, gs7_1 ha, rdM (ka7_1 ha) (la7_1 ha), wrM (ka7_1 ha) (la7_1 ha), alM (ka7_1 ha) (la7_1 ha), gs7_1 hb, rdM (ka7_1 hb) (la7_1 hb), wrM (ka7_1 hb) (la7_1 hb), alM (ka7_1 hb) (la7_1 hb), gs7_2 ha, rdM (ka7_2 ha) (la7_2 ha), wrM (ka7_2 ha) (la7_2 ha), alM (ka7_2 ha) (la7_2 ha), gs7_2 hb, rdM (ka7_2 hb) (la7_2 hb), wrM (ka7_2 hb) (la7_2 hb), alM (ka7_2 hb) (la7_2 hb), gs7_3 ha, rdM (ka7_3 ha) (la7_3 ha), wrM (ka7_3 ha) (la7_3 ha), alM (ka7_3 ha) (la7_3 ha), gs7_3 hb, rdM (ka7_3 hb) (la7_3 hb), wrM (ka7_3 hb) (la7_3 hb), alM (ka7_3 hb) (la7_3 hb), x1, x2, x3, qI_s, qJ_s, qR_s, qV_s, qX_s, qN_s, qW_s, qF_s, qC_s, Option.bind_some, Option.bind_none, Nat.reduceAdd, Nat.reduceBEq, Nat.reduceEqDiff, lk_nil, lk_cons, lk_pt1, lk_pt2i, isJ_i, isJ_r, isJ_l, gI_i, gJ_i, gR_i, Bool.false_eq_true, if_true, if_false, ite_true, ite_false, ↓reduceIte, len4_0, len4_1, len4_2, len4_3, len4_4, Option.toList_some, Option.toList_none, List.cons_append, List.nil_append, va_rf_s, up_hp, ofI_j, jI_add, jI_sub, jI_mul, jI_neg, jL_add, jL_sub, jL_mul, jI_jL, jL_jI, nar_i, nar_zj, lt_t, lt_f, le_t, le_f, eq_t, eq_f, ez_t, ez_f, lz_t, lz_f, gz_t, gz_f, nz_t, nz_f, pz_t, pz_f, lgc_gt, lgc_lt, lgc_ge, lgc_le, lgc_eq, Lt_t, Lt_f, Le_t, Le_f, Eq_t, Eq_f, dv_j, not_true_eq_false, not_false_eq_true, Int.reduceEq, Int.reduceAdd, Int.reduceSub, Int.reduceMul, Int.reduceNeg, Ez_t, Ez_f, dv_L, false_and, true_and, and_true, and_false]
      · have x2 := b0 g2
        simp (disch := omega) only [Rm_aload_n (k := 0) rfl dX7_isLike_0, Rm_getfield fl_7_9 dX7_isLike_1, Rm_aload_n (k := 1) rfl dX7_isLike_4, Rm_getfield fl_7_9 dX7_isLike_5, Rm_inS2 (d := dX7_isLike_8) ml_7_45 rfl, Rn_if_eq (t := 46) rfl dX7_isLike_11, Rm_aload_n (k := 0) rfl dX7_isLike_14, Rm_getfield fl_7_15 dX7_isLike_15, Rm_aload_n (k := 1) rfl dX7_isLike_18, Rm_getfield fl_7_15 dX7_isLike_19, Rm_inS2 (d := dX7_isLike_22) ml_7_45 rfl, Rn_if_eq (t := 46) rfl dX7_isLike_25, Rm_aload_n (k := 0) rfl dX7_isLike_28, Rm_getfield fl_7_21 dX7_isLike_29, Rm_aload_n (k := 1) rfl dX7_isLike_32, Rm_getfield fl_7_21 dX7_isLike_33, Rm_inS2 (d := dX7_isLike_36) ml_7_45 rfl, Rn_if_eq (t := 46) rfl dX7_isLike_39, Rn_iconst (v := jI (1)) rfl dX7_isLike_42, Rn_goto (t := 47) rfl dX7_isLike_43, Rn_iconst (v := jI (0)) rfl dX7_isLike_46, Rn_ireturn (ty := .boolean) rfl dX7_isLike_47, gs7_1 ha, rdM (ka7_1 ha) (la7_1 ha), wrM (ka7_1 ha) (la7_1 ha), alM (ka7_1 ha) (la7_1 ha), gs7_1 hb, rdM (ka7_1 hb) (la7_1 hb), wrM (ka7_1 hb) (la7_1 hb), alM (ka7_1 hb) (la7_1 hb), gs7_2 ha, rdM (ka7_2 ha) (la7_2 ha), wrM (ka7_2 ha) (la7_2 ha), alM (ka7_2 ha) (la7_2 ha), gs7_2 hb, rdM (ka7_2 hb) (la7_2 hb), wrM (ka7_2 hb) (la7_2 hb), alM (ka7_2 hb) (la7_2 hb), gs7_3 ha, rdM (ka7_3 ha) (la7_3 ha), wrM (ka7_3 ha) (la7_3 ha), alM (ka7_3 ha) (la7_3 ha), gs7_3 hb, rdM (ka7_3 hb) (la7_3 hb), wrM (ka7_3 hb) (la7_3 hb), alM (ka7_3 hb) (la7_3 hb), x1, x2, qI_s, qJ_s, qR_s, qV_s, qX_s, qN_s, qW_s, qF_s, qC_s, Option.bind_some, Option.bind_none, Nat.reduceAdd, Nat.reduceBEq, Nat.reduceEqDiff, lk_nil, lk_cons, lk_pt1, lk_pt2i, isJ_i, isJ_r, isJ_l, gI_i, gJ_i, gR_i, Bool.false_eq_true, if_true, if_false, ite_true, ite_false, ↓reduceIte, len4_0, len4_1, len4_2, len4_3, len4_4, Option.toList_some, Option.toList_none, List.cons_append, List.nil_append, va_rf_s, up_hp, ofI_j, jI_add, jI_sub, jI_mul, jI_neg, jL_add, jL_sub, jL_mul, jI_jL, jL_jI, nar_i, nar_zj, lt_t, lt_f, le_t, le_f, eq_t, eq_f, ez_t, ez_f, lz_t, lz_f, gz_t, gz_f, nz_t, nz_f, pz_t, pz_f, lgc_gt, lgc_lt, lgc_ge, lgc_le, lgc_eq, Lt_t, Lt_f, Le_t, Le_f, Eq_t, Eq_f, dv_j, not_true_eq_false, not_false_eq_true, Int.reduceEq, Int.reduceAdd, Int.reduceSub, Int.reduceMul, Int.reduceNeg, Ez_t, Ez_f, dv_L, false_and, true_and, and_true, and_false]
    · have x1 := a0 g1
      simp (disch := omega) only [Rm_aload_n (k := 0) rfl dX7_isLike_0, Rm_getfield fl_7_9 dX7_isLike_1, Rm_aload_n (k := 1) rfl dX7_isLike_4, Rm_getfield fl_7_9 dX7_isLike_5, Rm_inS2 (d := dX7_isLike_8) ml_7_45 rfl, Rn_if_eq (t := 46) rfl dX7_isLike_11, Rm_aload_n (k := 0) rfl dX7_isLike_14, Rm_getfield fl_7_15 dX7_isLike_15, Rm_aload_n (k := 1) rfl dX7_isLike_18, Rm_getfield fl_7_15 dX7_isLike_19, Rm_inS2 (d := dX7_isLike_22) ml_7_45 rfl, Rn_if_eq (t := 46) rfl dX7_isLike_25, Rm_aload_n (k := 0) rfl dX7_isLike_28, Rm_getfield fl_7_21 dX7_isLike_29, Rm_aload_n (k := 1) rfl dX7_isLike_32, Rm_getfield fl_7_21 dX7_isLike_33, Rm_inS2 (d := dX7_isLike_36) ml_7_45 rfl, Rn_if_eq (t := 46) rfl dX7_isLike_39, Rn_iconst (v := jI (1)) rfl dX7_isLike_42, Rn_goto (t := 47) rfl dX7_isLike_43, Rn_iconst (v := jI (0)) rfl dX7_isLike_46, Rn_ireturn (ty := .boolean) rfl dX7_isLike_47, gs7_1 ha, rdM (ka7_1 ha) (la7_1 ha), wrM (ka7_1 ha) (la7_1 ha), alM (ka7_1 ha) (la7_1 ha), gs7_1 hb, rdM (ka7_1 hb) (la7_1 hb), wrM (ka7_1 hb) (la7_1 hb), alM (ka7_1 hb) (la7_1 hb), gs7_2 ha, rdM (ka7_2 ha) (la7_2 ha), wrM (ka7_2 ha) (la7_2 ha), alM (ka7_2 ha) (la7_2 ha), gs7_2 hb, rdM (ka7_2 hb) (la7_2 hb), wrM (ka7_2 hb) (la7_2 hb), alM (ka7_2 hb) (la7_2 hb), gs7_3 ha, rdM (ka7_3 ha) (la7_3 ha), wrM (ka7_3 ha) (la7_3 ha), alM (ka7_3 ha) (la7_3 ha), gs7_3 hb, rdM (ka7_3 hb) (la7_3 hb), wrM (ka7_3 hb) (la7_3 hb), alM (ka7_3 hb) (la7_3 hb), x1, qI_s, qJ_s, qR_s, qV_s, qX_s, qN_s, qW_s, qF_s, qC_s, Option.bind_some, Option.bind_none, Nat.reduceAdd, Nat.reduceBEq, Nat.reduceEqDiff, lk_nil, lk_cons, lk_pt1, lk_pt2i, isJ_i, isJ_r, isJ_l, gI_i, gJ_i, gR_i, Bool.false_eq_true, if_true, if_false, ite_true, ite_false, ↓reduceIte, len4_0, len4_1, len4_2, len4_3, len4_4, Option.toList_some, Option.toList_none, List.cons_append, List.nil_append, va_rf_s, up_hp, ofI_j, jI_add, jI_sub, jI_mul, jI_neg, jL_add, jL_sub, jL_mul, jI_jL, jL_jI, nar_i, nar_zj, lt_t, lt_f, le_t, le_f, eq_t, eq_f, ez_t, ez_f, lz_t, lz_f, gz_t, gz_f, nz_t, nz_f, pz_t, pz_f, lgc_gt, lgc_lt, lgc_ge, lgc_le, lgc_eq, Lt_t, Lt_f, Le_t, Le_f, Eq_t, Eq_f, dv_j, not_true_eq_false, not_false_eq_true, Int.reduceEq, Int.reduceAdd, Int.reduceSub, Int.reduceMul, Int.reduceNeg, Ez_t, Ez_f, dv_L, false_and, true_and, and_true, and_false]
theorem k_dawn {i : Nat} (h : i < 9) : kd (173 + 5 * i) = 7 := by
  have : ∀ i, i < 9 → kd (173 + 5 * i) = 7 := by decide +kernel
  exact this i h
end

/-! a town told: a new name, the class -/
theorem cntK_inc {T : TT} {kind kind' : Nat} (h : kind < 4) (h' : kind' < 4) : cntK (incK kind T) kind' = if kind' = kind then cntK T kind + 1 else cntK T kind' := by
  rcases (show kind = 0 ∨ kind = 1 ∨ kind = 2 ∨ kind = 3 by omega) with rfl | rfl | rfl | rfl <;> rcases (show kind' = 0 ∨ kind' = 1 ∨ kind' = 2 ∨ kind' = 3 by omega) with rfl | rfl | rfl | rfl <;> rfl
theorem kI_inj {a b : Nat} (ha : a < 4) (hb : b < 4) (h : kI a = kI b) : a = b := by
  unfold kI at h
  split at h <;> split at h <;> omega
theorem kI_lt {a : Nat} (ha : a < 4) : kI a < 5 ∧ ¬ kI a = 3 := by
  unfold kI
  split <;> omega
theorem mxK_le (a : Nat) : mxK a ≤ 8 := by
  unfold mxK
  repeat' split
  all_goals omega
theorem CN_adN {M M' : Me} {t kind : Nat} {B : BT} {L : List Nat} (hk4 : kind < 4) (h : CN M t B) (hL : wfL L) (hc : cntK B.1 kind < mxK kind) (h1 : M' (t + 1) = su (M (t + 1)) (kI kind : Nat) ((cntK B.1 kind : Nat) + 1)) (h2 : M' (t + 2) = su (M (t + 2)) ((kI kind : Nat) * 8 + (cntK B.1 kind : Nat)) (pkC L)) : CN M' t (adN kind L B) := by
  obtain ⟨a1, a2, a3⟩ := h
  have m8 := mxK_le kind
  refine ⟨fun kind' hk' => ?_, ?_, fun kind' j hk' hj => ?_⟩
  · show M' (t + 1) (kI kind' : Nat) = cntK (incK kind B.1) kind' ∧ cntK (incK kind B.1) kind' ≤ 8
    rw [cntK_inc hk4 hk', h1]
    by_cases q : kind' = kind
    · subst q
      rw [if_pos rfl, su_self]
      omega
    · rw [if_neg q, su_ne _ _ (fun h => q (kI_inj hk' hk4 (by omega)))]
      exact a1 kind' hk'
  · show M' (t + 1) 3 = ne B.1
    have := kI_lt hk4
    rw [h1, su_ne _ _ (by omega)]
    exact a2
  · have hj' : j < cntK (incK kind B.1) kind' := hj
    show wfL (if kind' = kind ∧ j = cntK B.1 kind then L else B.2.1 kind' j) ∧ M' (t + 2) ((kI kind' : Nat) * 8 + j) = pkC (if kind' = kind ∧ j = cntK B.1 kind then L else B.2.1 kind' j)
    rw [cntK_inc hk4 hk'] at hj'
    rw [h2]
    by_cases q : kind' = kind ∧ j = cntK B.1 kind
    · rw [if_pos q, q.1, q.2, su_self]
      exact ⟨hL, rfl⟩
    · have hj2 : j < cntK B.1 kind' := by
        by_cases q1 : kind' = kind
        · rw [if_pos q1] at hj'
          rw [q1]
          have : ¬ j = cntK B.1 kind := fun h => q ⟨q1, h⟩
          omega
        · rw [if_neg q1] at hj'
          exact hj'
      have b8 := (a1 kind' hk').2
      rw [if_neg q, su_ne]
      · exact a3 kind' j hk' hj2
      · intro he
        have e1 : kI kind' = kI kind := by omega
        have e2 := kI_inj hk' hk4 e1
        exact q ⟨e2, by rw [e1] at he; omega⟩
section
variable {n z : Nat} {H : Nat → AC} {M : Me} {g : Int → Int} {k e : Nat} {nb : Bool}
theorem s_checkNm (hk : k ≤ 1600) (he : e ≤ k) (hT : TK g k e nb M) (d : Nat) : ∃ (v : Int) (M' : Me), X (d + 2) 56 [.ref 11] (n, z, hp H M) = some (some (.int (jI v)), (n, z, hp H M')) ∧ KG1 M M' ∧ (match nmF g k (e, nb) with
    | .inl (L, q) => v = 1 ∧ M' = M ∧ M 11 6 = pkC L ∧ wfL L ∧ q = (tkQ g k e, nxB g k e nb) ∧ q.1 ≤ k
    | .inr x => v = 0 ∧ Fl11 M' x) := by
  have ec := s_checkName (n := n) (z := z) (H := H) hk he hT d
  have y6 : M 11 6 = vaF g k e := hT.2.2.2.2.2.2.2
  rcases hnm : nmF g k (e, nb) with ⟨L, q⟩ | x
  · obtain ⟨a1, a2, a3, a4, a5, a6⟩ := nmF_in (p := (e, nb)) he hnm
    dsimp only at a5 a6
    unfold nmF at hnm
    dsimp only at hnm
    split at hnm
    · rename_i q1
      split at hnm
      · rename_i q2
        rw [if_pos q1, if_pos q2] at ec
        have hv := va_pk q1.1 q2
        rw [← a6] at hv
        rw [hv] at y6
        exact ⟨1, M, ec, KG1_refl M, rfl, rfl, y6, a4, a1, a3⟩
      · cases hnm
    · cases hnm
  · unfold nmF at hnm
    dsimp only at hnm
    split at hnm
    · rename_i q1
      split at hnm
      · cases hnm
      · rename_i q2
        cases hnm
        rw [if_pos q1, if_neg q2] at ec
        exact ⟨0, _, ec, KG1_w _ _ _, rfl, wr_Fl M 1 (skp g k e + 6)⟩
    · rename_i q1
      cases hnm
      rw [if_neg q1] at ec
      exact ⟨0, _, ec, KG1_w _ _ _, rfl, wr_Fl M 1 _⟩
theorem TK_fr {M' : Me} (h : TK g k e nb M) (h1 : M' 11 = M 11) (h2 : M' 12 = M 12) : TK g k e nb M' := by
  unfold TK at h ⊢
  rw [h1, h2]
  exact h
set_option maxHeartbeats 4000000 in
theorem s_readNew {t kind : Nat} {B : BT} (hW : Hw H) (hH : Hk H) (hb : Byt g k) (hk : k ≤ 1600) (hk4 : kind < 4) (ht : kd t = 9) (he : e ≤ k) (hT : TK g k e nb M) (hj : tkJ g k e nb = 1) (hC : CN M t B) (d : Nat) : ∃ (v : Int) (M' : Me), X (d + 7) 87 [.ref 9, .ref t, .int (jI (kI kind : Nat))] (n, z, hp H M) = some (some (.int (jI v)), (n, z, hp H M')) ∧ KGn t M M' ∧ (match newF g k kind (e, nb) B with
    | .inl (L, q) => v = 1 ∧ TK g k q.1 q.2 M' ∧ CN M' t (adN kind L B)
    | .inr x => v = 0 ∧ Fl11 M' x) := by
  have t9 := a9 ht
  have y4 := TK_at hT
  obtain ⟨y1, y8⟩ := hC.1 kind hk4
  have ki := kI_lt hk4
  have m8 := mxK_le kind
  have mk : rdi 1 (hp H M 1) (jI (kI kind : Nat)) = some (jI (mxK kind : Nat)) := by
    obtain ⟨m0, m1, m2, m3, m4, -⟩ := mo_rd hH M
    rcases (show kind = 0 ∨ kind = 1 ∨ kind = 2 ∨ kind = 3 by omega) with rfl | rfl | rfl | rfl
    · exact m0
    · exact m1
    · exact m2
    · exact m4
  have hn := nx_P (g := g) (k := k) (p := (e, nb)) he hj (by omega) (by omega)
  have hnQ : tkQ g k e ≤ k := hn.2
  rw [Xe_X10_readNew]
  generalize hK : kI kind = K at *
  by_cases q1 : mxK kind ≤ cntK B.1 kind
  · have hnf : newF g k kind (e, nb) B = .inr (5, skp g k e) := by unfold newF; rw [if_pos q1]
    rw [hnf]
    refine ⟨0, wrM1 M 5 (skp g k e), ?_, KGn_1 (KG1_w _ _ _), rfl, wr_Fl M 5 _⟩
    simp (disch := omega) only [Rm_aload_n (k := 1) rfl dX10_readNew_0, Rm_getfield fl_10_81 dX10_readNew_1, Rm_iload_n (k := 2) rfl dX10_readNew_4, Rm_iaload dX10_readNew_5, Rn_getstatic (v := .ref 1) gl_10_111 rfl dX10_readNew_6, Rm_iload_n (k := 2) rfl dX10_readNew_9, Rm_iaload dX10_readNew_10, Rn_icmp_lt (t := 30) rfl dX10_readNew_11, Rm_aload_n (k := 0) rfl dX10_readNew_14, Rm_getfield fl_10_22 dX10_readNew_15, Rn_iconst (v := jI (5)) rfl dX10_readNew_18, Rm_aload_n (k := 0) rfl dX10_readNew_19, Rm_getfield fl_10_22 dX10_readNew_20, Rm_getfield fl_10_38 dX10_readNew_23, Rm_inV2 (d := dX10_readNew_26) (hy := mo_51) (h13 := rfl) ml_10_41 rfl, Rn_ireturn (ty := .boolean) rfl dX10_readNew_29, gs6_4 k11, gs9_1 ht, rdM (ka9_1 ht) (la9_1 ht), wrM (ka9_1 ht) (la9_1 ht), alM (ka9_1 ht) (la9_1 ht), gs10_1 k9, io6 k11, io6 k11, y1, mk, y4, s_wrong, qI_s, qJ_s, qR_s, qV_s, qX_s, qN_s, qW_s, qF_s, qC_s, Option.bind_some, Option.bind_none, Nat.reduceAdd, Nat.reduceBEq, Nat.reduceEqDiff, lk_nil, lk_cons, lk_pt1, lk_pt2i, isJ_i, isJ_r, isJ_l, gI_i, gJ_i, gR_i, Bool.false_eq_true, if_true, if_false, ite_true, ite_false, ↓reduceIte, len4_0, len4_1, len4_2, len4_3, len4_4, Option.toList_some, Option.toList_none, List.cons_append, List.nil_append, va_rf_s, up_hp, ofI_j, jI_add, jI_sub, jI_mul, jI_neg, jL_add, jL_sub, jL_mul, jI_jL, jL_jI, nar_i, nar_zj, lt_t, lt_f, le_t, le_f, eq_t, eq_f, ez_t, ez_f, lz_t, lz_f, gz_t, gz_f, nz_t, nz_f, pz_t, pz_f, lgc_gt, lgc_lt, lgc_ge, lgc_le, lgc_eq, Lt_t, Lt_f, Le_t, Le_f, Eq_t, Eq_f, dv_j, not_true_eq_false, not_false_eq_true, Int.reduceEq, Int.reduceAdd, Int.reduceSub, Int.reduceMul, Int.reduceNeg, Ez_t, Ez_f, dv_L, false_and, true_and, and_true, and_false]
  · obtain ⟨M1, e1, K1, T1⟩ := s_nextT (n := n) (z := z) (H := H) hW hb hk he hT d
    have hC1 : CN M1 t B := CN_keep hC (K1.1 _ (by omega)) (K1.1 _ (by omega))
    obtain ⟨v2, M2, e2, K2, h2⟩ := s_checkNm (n := n) (z := z) (H := H) hk hnQ T1 (d + 4)
    have hnf : newF g k kind (e, nb) B = bz (nmF g k (tkQ g k e, nxB g k e nb)) fun x => @ite _ (hasN B x.1) (Classical.propDecidable _) (.inr (3, skp g k (tkQ g k e))) (.inl x) := by unfold newF; rw [if_neg q1]; rfl
    rw [hnf]
    rcases hnm : nmF g k (tkQ g k e, nxB g k e nb) with ⟨L, q⟩ | x
    · rw [hnm] at h2
      obtain ⟨rfl, rfl, y6, wL, hq, hqk⟩ := h2
      have rL := pkC_rng wL
      obtain ⟨in1, in2⟩ := s_isNamed (n := n) (z := z) (H := H) (L := L) ht hC1 wL (d + 4)
      have y41 := TK_at T1
      show ∃ (v : Int) (M' : Me), _ ∧ _ ∧ (match (@ite _ (hasN B L) (Classical.propDecidable _) (.inr (3, skp g k (tkQ g k e))) (.inl (L, q)) : (List Nat × Ps) ⊕ Fz) with
        | .inl (L, q) => v = 1 ∧ TK g k q.1 q.2 M' ∧ CN M' t (adN kind L B)
        | .inr x => v = 0 ∧ Fl11 M' x)
      by_cases q2 : hasN B L
      · rw [if_pos q2]
        have ei := in1 q2
        refine ⟨0, wrM1 M2 3 (skp g k (tkQ g k e)), ?_, KGn_trans (KGn_1 K1) (KGn_1 (KG1_w _ _ _)), rfl, wr_Fl M2 3 _⟩
        simp (disch := omega) only [Rm_aload_n (k := 1) rfl dX10_readNew_0, Rm_getfield fl_10_81 dX10_readNew_1, Rm_iload_n (k := 2) rfl dX10_readNew_4, Rm_iaload dX10_readNew_5, Rn_getstatic (v := .ref 1) gl_10_111 rfl dX10_readNew_6, Rm_iload_n (k := 2) rfl dX10_readNew_9, Rm_iaload dX10_readNew_10, Rn_icmp_lt (t := 30) rfl dX10_readNew_11, Rm_aload_n (k := 0) rfl dX10_readNew_14, Rm_getfield fl_10_22 dX10_readNew_15, Rn_iconst (v := jI (5)) rfl dX10_readNew_18, Rm_aload_n (k := 0) rfl dX10_readNew_19, Rm_getfield fl_10_22 dX10_readNew_20, Rm_getfield fl_10_38 dX10_readNew_23, Rm_inV2 (d := dX10_readNew_26) (hy := mo_51) (h13 := rfl) ml_10_41 rfl, Rn_ireturn (ty := .boolean) rfl dX10_readNew_29, Rm_aload_n (k := 0) rfl dX10_readNew_30, Rm_getfield fl_10_22 dX10_readNew_31, Rm_inV0 (d := dX10_readNew_34) (hy := mo_42) (h13 := rfl) ml_10_102 rfl, Rm_aload_n (k := 0) rfl dX10_readNew_37, Rm_getfield fl_10_22 dX10_readNew_38, Rm_inV0 (d := dX10_readNew_41) (hy := mo_56) (h13 := rfl) ml_10_160 rfl, Rn_if_ne (t := 49) rfl dX10_readNew_44, Rn_iconst (v := jI (0)) rfl dX10_readNew_47, Rn_ireturn (ty := .boolean) rfl dX10_readNew_48, Rm_aload_n (k := 1) rfl dX10_readNew_49, Rm_aload_n (k := 0) rfl dX10_readNew_50, Rm_getfield fl_10_22 dX10_readNew_51, Rm_getfield fl_10_164 dX10_readNew_54, Rm_inV1 (d := dX10_readNew_57) (hy := mo_76) (h13 := rfl) ml_10_167 rfl, Rn_if_eq (t := 79) rfl dX10_readNew_60, Rm_aload_n (k := 0) rfl dX10_readNew_63, Rm_getfield fl_10_22 dX10_readNew_64, Rn_iconst (v := jI (3)) rfl dX10_readNew_67, Rm_aload_n (k := 0) rfl dX10_readNew_68, Rm_getfield fl_10_22 dX10_readNew_69, Rm_getfield fl_10_38 dX10_readNew_72, Rm_inV2 (d := dX10_readNew_75) (hy := mo_51) (h13 := rfl) ml_10_41 rfl, Rn_ireturn (ty := .boolean) rfl dX10_readNew_78, gs6_4 k11, gs6_6 k11, gs9_1 ht, rdM (ka9_1 ht) (la9_1 ht), wrM (ka9_1 ht) (la9_1 ht), alM (ka9_1 ht) (la9_1 ht), gs10_1 k9, io6 k11, io9 ht, io6 k11, io9 ht, y1, mk, e1, e2, ei, y6, y41, s_wrong, qI_s, qJ_s, qR_s, qV_s, qX_s, qN_s, qW_s, qF_s, qC_s, Option.bind_some, Option.bind_none, Nat.reduceAdd, Nat.reduceBEq, Nat.reduceEqDiff, lk_nil, lk_cons, lk_pt1, lk_pt2i, isJ_i, isJ_r, isJ_l, gI_i, gJ_i, gR_i, Bool.false_eq_true, if_true, if_false, ite_true, ite_false, ↓reduceIte, len4_0, len4_1, len4_2, len4_3, len4_4, Option.toList_some, Option.toList_none, List.cons_append, List.nil_append, va_rf_s, up_hp, ofI_j, jI_add, jI_sub, jI_mul, jI_neg, jL_add, jL_sub, jL_mul, jI_jL, jL_jI, nar_i, nar_zj, lt_t, lt_f, le_t, le_f, eq_t, eq_f, ez_t, ez_f, lz_t, lz_f, gz_t, gz_f, nz_t, nz_f, pz_t, pz_f, lgc_gt, lgc_lt, lgc_ge, lgc_le, lgc_eq, Lt_t, Lt_f, Le_t, Le_f, Eq_t, Eq_f, dv_j, not_true_eq_false, not_false_eq_true, Int.reduceEq, Int.reduceAdd, Int.reduceSub, Int.reduceMul, Int.reduceNeg, Ez_t, Ez_f, dv_L, false_and, true_and, and_true, and_false]
      · rw [if_neg q2]
        have ei := in2 q2
        have z1 : M2 (t + 1) (K : Nat) = (cntK B.1 kind : Nat) := by rw [K1.1 _ (by omega)]; exact y1
        have f1 : ∀ i v, st M2 (t + 2) i v (t + 1) = M2 (t + 1) := fun i v => st_ne _ _ _ (by omega)
        have T3 : TK g k (tkQ g k e) (nxB g k e nb) (st (st M2 (t + 2) ((K : Nat) * 8 + (cntK B.1 kind : Nat)) (pkC L)) (t + 1) (K : Nat) ((cntK B.1 kind : Nat) + 1)) := TK_fr T1 (by rw [st_ne _ _ _ (by omega), st_ne _ _ _ (by omega)]) (by rw [st_ne _ _ _ (by omega), st_ne _ _ _ (by omega)])
        obtain ⟨M4, e4, K4, T4⟩ := s_nextT (n := n) (z := z) (H := H) hW hb hk hnQ T3 d
        have K3 : KGn t M2 (st (st M2 (t + 2) ((K : Nat) * 8 + (cntK B.1 kind : Nat)) (pkC L)) (t + 1) (K : Nat) ((cntK B.1 kind : Nat) + 1)) := ⟨fun b hb => by rw [st_ne _ _ _ (by omega), st_ne _ _ _ (by omega)], fun i hi => by rw [st_ne _ _ _ (by omega), st_ne _ _ _ (by omega)]⟩
        refine ⟨1, M4, ?_, KGn_trans (KGn_1 K1) (KGn_trans K3 (KGn_1 K4)), rfl, by rw [hq]; exact T4, ?_⟩
        · simp (disch := omega) only [Rm_aload_n (k := 1) rfl dX10_readNew_0, Rm_getfield fl_10_81 dX10_readNew_1, Rm_iload_n (k := 2) rfl dX10_readNew_4, Rm_iaload dX10_readNew_5, Rn_getstatic (v := .ref 1) gl_10_111 rfl dX10_readNew_6, Rm_iload_n (k := 2) rfl dX10_readNew_9, Rm_iaload dX10_readNew_10, Rn_icmp_lt (t := 30) rfl dX10_readNew_11, Rm_aload_n (k := 0) rfl dX10_readNew_14, Rm_getfield fl_10_22 dX10_readNew_15, Rn_iconst (v := jI (5)) rfl dX10_readNew_18, Rm_aload_n (k := 0) rfl dX10_readNew_19, Rm_getfield fl_10_22 dX10_readNew_20, Rm_getfield fl_10_38 dX10_readNew_23, Rm_inV2 (d := dX10_readNew_26) (hy := mo_51) (h13 := rfl) ml_10_41 rfl, Rn_ireturn (ty := .boolean) rfl dX10_readNew_29, Rm_aload_n (k := 0) rfl dX10_readNew_30, Rm_getfield fl_10_22 dX10_readNew_31, Rm_inV0 (d := dX10_readNew_34) (hy := mo_42) (h13 := rfl) ml_10_102 rfl, Rm_aload_n (k := 0) rfl dX10_readNew_37, Rm_getfield fl_10_22 dX10_readNew_38, Rm_inV0 (d := dX10_readNew_41) (hy := mo_56) (h13 := rfl) ml_10_160 rfl, Rn_if_ne (t := 49) rfl dX10_readNew_44, Rn_iconst (v := jI (0)) rfl dX10_readNew_47, Rn_ireturn (ty := .boolean) rfl dX10_readNew_48, Rm_aload_n (k := 1) rfl dX10_readNew_49, Rm_aload_n (k := 0) rfl dX10_readNew_50, Rm_getfield fl_10_22 dX10_readNew_51, Rm_getfield fl_10_164 dX10_readNew_54, Rm_inV1 (d := dX10_readNew_57) (hy := mo_76) (h13 := rfl) ml_10_167 rfl, Rn_if_eq (t := 79) rfl dX10_readNew_60, Rm_aload_n (k := 0) rfl dX10_readNew_63, Rm_getfield fl_10_22 dX10_readNew_64, Rn_iconst (v := jI (3)) rfl dX10_readNew_67, Rm_aload_n (k := 0) rfl dX10_readNew_68, Rm_getfield fl_10_22 dX10_readNew_69, Rm_getfield fl_10_38 dX10_readNew_72, Rm_inV2 (d := dX10_readNew_75) (hy := mo_51) (h13 := rfl) ml_10_41 rfl, Rn_ireturn (ty := .boolean) rfl dX10_readNew_78, Rm_aload_n (k := 1) rfl dX10_readNew_79, Rm_getfield fl_10_170 dX10_readNew_80, Rm_iload_n (k := 2) rfl dX10_readNew_83, Rn_bipush (v := jI (8)) rfl dX10_readNew_84, Rn_imul dX10_readNew_86, Rm_aload_n (k := 1) rfl dX10_readNew_87, Rm_getfield fl_10_81 dX10_readNew_88, Rm_iload_n (k := 2) rfl dX10_readNew_91, Rm_iaload dX10_readNew_92, Rn_iadd dX10_readNew_93, Rm_aload_n (k := 0) rfl dX10_readNew_94, Rm_getfield fl_10_22 dX10_readNew_95, Rm_getfield fl_10_164 dX10_readNew_98, Rm_iastore dX10_readNew_101, Rm_aload_n (k := 1) rfl dX10_readNew_102, Rm_getfield fl_10_81 dX10_readNew_103, Rm_iload_n (k := 2) rfl dX10_readNew_106, Rn_dup2 dX10_readNew_107, Rm_iaload dX10_readNew_108, Rn_iconst (v := jI (1)) rfl dX10_readNew_109, Rn_iadd dX10_readNew_110, Rm_iastore dX10_readNew_111, Rm_aload_n (k := 0) rfl dX10_readNew_112, Rm_getfield fl_10_22 dX10_readNew_113, Rm_inV0 (d := dX10_readNew_116) (hy := mo_42) (h13 := rfl) ml_10_102 rfl, Rn_iconst (v := jI (1)) rfl dX10_readNew_119, Rn_ireturn (ty := .boolean) rfl dX10_readNew_120, gs6_4 k11, gs6_6 k11, gs9_1 ht, rdM (ka9_1 ht) (la9_1 ht), wrM (ka9_1 ht) (la9_1 ht), alM (ka9_1 ht) (la9_1 ht), gs9_2 ht, rdM (ka9_2 ht) (la9_2 ht), wrM (ka9_2 ht) (la9_2 ht), alM (ka9_2 ht) (la9_2 ht), gs10_1 k9, io6 k11, io9 ht, Rn_dup2 dX10_readNew_107, io6 k11, io9 ht, y1, mk, e1, e2, ei, y6, z1, f1, e4, qI_s, qJ_s, qR_s, qV_s, qX_s, qN_s, qW_s, qF_s, qC_s, Option.bind_some, Option.bind_none, Nat.reduceAdd, Nat.reduceBEq, Nat.reduceEqDiff, lk_nil, lk_cons, lk_pt1, lk_pt2i, isJ_i, isJ_r, isJ_l, gI_i, gJ_i, gR_i, Bool.false_eq_true, if_true, if_false, ite_true, ite_false, ↓reduceIte, len4_0, len4_1, len4_2, len4_3, len4_4, Option.toList_some, Option.toList_none, List.cons_append, List.nil_append, va_rf_s, up_hp, ofI_j, jI_add, jI_sub, jI_mul, jI_neg, jL_add, jL_sub, jL_mul, jI_jL, jL_jI, nar_i, nar_zj, lt_t, lt_f, le_t, le_f, eq_t, eq_f, ez_t, ez_f, lz_t, lz_f, gz_t, gz_f, nz_t, nz_f, pz_t, pz_f, lgc_gt, lgc_lt, lgc_ge, lgc_le, lgc_eq, Lt_t, Lt_f, Le_t, Le_f, Eq_t, Eq_f, dv_j, not_true_eq_false, not_false_eq_true, Int.reduceEq, Int.reduceAdd, Int.reduceSub, Int.reduceMul, Int.reduceNeg, Ez_t, Ez_f, dv_L, false_and, true_and, and_true, and_false]
        · refine CN_adN hk4 hC1 wL (by omega) ?_ ?_
          · rw [K4.1 _ (by omega), st_self, f1, hK]
          · rw [K4.1 _ (by omega), st_ne _ _ _ (by omega), st_self, hK]
    · rw [hnm] at h2
      obtain ⟨rfl, hfl⟩ := h2
      refine ⟨0, M2, ?_, KGn_trans (KGn_1 K1) (KGn_1 K2), rfl, hfl⟩
      simp (disch := omega) only [Rm_aload_n (k := 1) rfl dX10_readNew_0, Rm_getfield fl_10_81 dX10_readNew_1, Rm_iload_n (k := 2) rfl dX10_readNew_4, Rm_iaload dX10_readNew_5, Rn_getstatic (v := .ref 1) gl_10_111 rfl dX10_readNew_6, Rm_iload_n (k := 2) rfl dX10_readNew_9, Rm_iaload dX10_readNew_10, Rn_icmp_lt (t := 30) rfl dX10_readNew_11, Rm_aload_n (k := 0) rfl dX10_readNew_14, Rm_getfield fl_10_22 dX10_readNew_15, Rn_iconst (v := jI (5)) rfl dX10_readNew_18, Rm_aload_n (k := 0) rfl dX10_readNew_19, Rm_getfield fl_10_22 dX10_readNew_20, Rm_getfield fl_10_38 dX10_readNew_23, Rm_inV2 (d := dX10_readNew_26) (hy := mo_51) (h13 := rfl) ml_10_41 rfl, Rn_ireturn (ty := .boolean) rfl dX10_readNew_29, Rm_aload_n (k := 0) rfl dX10_readNew_30, Rm_getfield fl_10_22 dX10_readNew_31, Rm_inV0 (d := dX10_readNew_34) (hy := mo_42) (h13 := rfl) ml_10_102 rfl, Rm_aload_n (k := 0) rfl dX10_readNew_37, Rm_getfield fl_10_22 dX10_readNew_38, Rm_inV0 (d := dX10_readNew_41) (hy := mo_56) (h13 := rfl) ml_10_160 rfl, Rn_if_ne (t := 49) rfl dX10_readNew_44, Rn_iconst (v := jI (0)) rfl dX10_readNew_47, Rn_ireturn (ty := .boolean) rfl dX10_readNew_48, gs6_4 k11, gs9_1 ht, rdM (ka9_1 ht) (la9_1 ht), wrM (ka9_1 ht) (la9_1 ht), alM (ka9_1 ht) (la9_1 ht), gs10_1 k9, io6 k11, io6 k11, io9 ht, y1, mk, e1, e2, qI_s, qJ_s, qR_s, qV_s, qX_s, qN_s, qW_s, qF_s, qC_s, Option.bind_some, Option.bind_none, Nat.reduceAdd, Nat.reduceBEq, Nat.reduceEqDiff, lk_nil, lk_cons, lk_pt1, lk_pt2i, isJ_i, isJ_r, isJ_l, gI_i, gJ_i, gR_i, Bool.false_eq_true, if_true, if_false, ite_true, ite_false, ↓reduceIte, len4_0, len4_1, len4_2, len4_3, len4_4, Option.toList_some, Option.toList_none, List.cons_append, List.nil_append, va_rf_s, up_hp, ofI_j, jI_add, jI_sub, jI_mul, jI_neg, jL_add, jL_sub, jL_mul, jI_jL, jL_jI, nar_i, nar_zj, lt_t, lt_f, le_t, le_f, eq_t, eq_f, ez_t, ez_f, lz_t, lz_f, gz_t, gz_f, nz_t, nz_f, pz_t, pz_f, lgc_gt, lgc_lt, lgc_ge, lgc_le, lgc_eq, Lt_t, Lt_f, Le_t, Le_f, Eq_t, Eq_f, dv_j, not_true_eq_false, not_false_eq_true, Int.reduceEq, Int.reduceAdd, Int.reduceSub, Int.reduceMul, Int.reduceNeg, Ez_t, Ez_f, dv_L, false_and, true_and, and_true, and_false]
end

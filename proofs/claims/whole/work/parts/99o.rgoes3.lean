/-! behind a part: all of it -/
def GoE (g : Int → Int) (k wh : Nat) (W0 : List Nat) (c0 : Cfg) (v : Int) (M' : Me) : Prop := (v = 1 ∧ ∃ c' : Cfg, (∃ m, mit g k wh (m + 1) c0 = c') ∧ c'.1 = 0 ∧ CI k W0.length c' ∧ RCf g k wh W0 c' M') ∨ (v = 0 ∧ ∃ c' : Cfg, (∃ m, mit g k wh (m + 1) c0 = c') ∧ c'.1 = 4 ∧ CI k W0.length c' ∧ RCf g k wh W0 c' M') ∨ (v = 0 ∧ ∃ a p : Nat, (∃ m, mit g k wh (m + 1) c0 = Flt a p) ∧ (1 ≤ a ∧ a < 100) ∧ FL M' a p)
section
variable {n z : Nat} {H : Nat → AC} {g : Int → Int} {k wh : Nat} {W0 : List Nat}
theorem m2_eq (e op : Nat) (nb : Bool) (V C : List Nat) : mst g k wh (2, e, nb, op, V, C) = @ite _ (isSg g k e 41 ∧ (brk V = 20 ∨ brk V = 23 ∨ brk V = 24)) (Classical.propDecidable _) (1, tkQ g k e, nxB g k e nb, op - 1, (V.dropWhile fun x => !isBr x).tail, C ++ (V.takeWhile fun x => !isBr x) ++ (if brk V = 20 then [] else if brk V = 23 then [5] else [6]))
    (@ite _ (isSg g k e 42 ∨ isSg g k e 47) (Classical.propDecidable _) (0, tkQ g k e, nxB g k e nb, op, (if vaF g k e = 42 then 3 else 4) :: V.dropWhile isMu, C ++ V.takeWhile isMu)
    (@ite _ (isSg g k e 43 ∨ isSg g k e 45) (Classical.propDecidable _) (0, tkQ g k e, nxB g k e nb, op, (if vaF g k e = 43 then 1 else 2) :: V.dropWhile isAr, C ++ V.takeWhile isAr)
    (if brk V = 21 ∨ brk V = 22 then @ite _ (isSg g k e 44) (Classical.propDecidable _) (0, tkQ g k e, nxB g k e nb, op, (brk V + 2) :: (V.dropWhile fun x => !isBr x).tail, C ++ (V.takeWhile fun x => !isBr x)) (Flt 1 (skp g k e))
    else if brk V = 0 then (4, e, nb, op, V, C) else Flt 1 (skp g k e)))) := by
  unfold mst
  dsimp only
  rw [if_neg (by omega), if_neg (by omega), if_pos rfl]
/-- a sign after drops -/
theorem CI_sign {w e e' op s : Nat} {nb nb' : Bool} {V C : List Nat} (p : Nat → Bool) (hp : ∀ x, p x = true → x < 20) (h : CI k w (2, e, nb, op, V, C)) (h1 : e < e') (h2 : e' ≤ k) (hs : s < 20) : CI k w (0, e', nb', op, s :: V.dropWhile p, C ++ V.takeWhile p) := by
  obtain ⟨a1, a2, a3, a4, a5⟩ := h
  dsimp only at a1 a2 a3 a4 a5
  have s1 := cntO_split p V
  have s2 := len_split p V
  refine ⟨h2, a2, ?_, fun x hx => ?_, ?_⟩
  · show cntO (V.dropWhile p) + (if 20 ≤ s then 1 else 0) ≤ op
    rw [if_neg (by omega)]
    omega
  · have hx : x ∈ s :: V.dropWhile p := hx
    rw [List.mem_cons] at hx
    rcases hx with rfl | hx
    · omega
    · exact a4 x ((List.dropWhile_sublist _).subset hx)
  · show w + (s :: V.dropWhile p).length + (C ++ V.takeWhile p).length ≤ e'
    rw [List.length_cons, List.length_append]
    omega
set_option maxHeartbeats 8000000 in
theorem m_qGoesOn (hb : Byt g k) (hk : k ≤ 1600) (hW0 : ∀ x ∈ W0, 10 ≤ x ∧ x < 1000) {M : Me} {c0 : Cfg} (h0 : c0.1 = 2) (hc : CI k W0.length c0) (hM : RCf g k wh W0 c0 M) (d : Nat) :
    ∃ (v : Int) (M' : Me), X (d + 5) 250 [.ref 218] (n, z, hp H M) = some (some (.int (jI v)), (n, z, hp H M')) ∧ KB M M' ∧ GoE g k wh W0 c0 v M' := by
  refine ex2_of fun G hG => ?_
  have key : ∀ μ : Nat, ∀ (e op : Nat) (nb : Bool) (V C : List Nat) (M1 : Me) (l1 : Lo), k - e = μ → CI k W0.length (2, e, nb, op, V, C) → RCf g k wh W0 (2, e, nb, op, V, C) M1 → KB M M1 → (∃ m, mit g k wh m c0 = (2, e, nb, op, V, C)) → lk l1 0 = some (.ref 218) → G (Rn (X (d + 4)) 12 (some .boolean) false 2 cX12_qGoesOn (0, l1, [], (n, z, hp H M1))) := by
    intro μ
    induction μ using Nat.strongRecOn with
    | ind μ ih =>
    intro e op nb V C M1 l1 hμ hci hR hKB hmm q0
    obtain ⟨mm, hmm⟩ := hmm
    have hms := m2_eq (g := g) (k := k) (wh := wh) e op nb V C
    have hst : ∀ c', mst g k wh (2, e, nb, op, V, C) = c' → ∃ m, mit g k wh (m + 1) c0 = c' := fun c' h => ⟨mm, by rw [mit_snoc, hmm, h]⟩
    obtain ⟨hP, hQ, hWK⟩ := id hR
    dsimp only at hP hQ
    obtain ⟨he, hop, hcnt, hV, hlen⟩ := id hci
    dsimp only at he hop hcnt hV hlen
    have hlW : (W0 ++ V.reverse).length = W0.length + V.length := by simp
    have y5 : M1 218 5 = 0 := hP.2.2.2.2.1
    obtain ⟨M2, e2, f1, f2, f3⟩ := m_peeks (n := n) (z := z) (H := H) hb hk he hP.1 hP.2.1 hP.2.2.1 (d + 3)
    have hP2 := PQ_pk he hP f1 f2 f3
    have K2 : KT M1 M2 := KT_2 f1 f2
    have hQ2 := QS_T hQ K2
    have hWK2 := WK_T hWK K2
    have KB2 : KB M M2 := KB_trans hKB (KB_T K2)
    have pr := pkV_rng hb he
    have i41 := pk_Sg (g := g) (k := k) (e := e) (c := 41) (by decide) (by omega)
    have ebr := m_qBracket (n := n) (z := z) (H := H) hQ2 (by rw [hlW]; omega) hV (d + 2)
    have hbr1000 : brk V < 1000 := by
      by_cases h : brk V = 0
      · omega
      · obtain ⟨V', -, h1, h2⟩ := brk_dec h; omega
    have y52 : M2 218 5 = 0 := hP2.2.2.2.2.1
    by_cases hA : isSg g k e 41 ∧ (brk V = 20 ∨ brk V = 23 ∨ brk V = 24)
    · have p41 := i41.mpr hA.1
      have hn := nx_step (g := g) he (by have := Sg_K hA.1; omega)
      rw [if_pos hA] at hms
      obtain ⟨V', hdw, hb1, hb2⟩ := brk_dec (V := V) (by omega)
      rw [hdw, List.tail_cons] at hms
      rw [if_neg (by omega)] at ebr
      have hP3 := PQ_sg he hP2 hA.1
      have K3 : KT M2 (st M2 218 2 (skp g k e + 1)) := KT_st (KT_refl M2) (by omega)
      have hQ3 := QS_T hQ2 K3
      obtain ⟨M4, e4, hQ4, K4, f4⟩ := m_qDropsToBracket (n := n) (z := z) (H := H) (by rw [hlW]; omega) hV hQ3 (d + 1)
      rw [hdw, List.reverse_cons, ← List.append_assoc] at hQ4
      obtain ⟨a1, a2, a3, a4, a5⟩ := hQ4
      have s1 := cntO_split (fun x => !isBr x) V
      have s2 := len_split (fun x => !isBr x) V
      rw [hdw] at s1 s2
      simp only [cntO, List.length_cons] at s1 s2
      rw [if_pos (by omega)] at s1
      generalize hD : V.takeWhile (fun x => !isBr x) = D at *
      rw [il_app] at a1
      obtain ⟨t1, t2⟩ := LSq_top (x := (brk V : Int)) a1
      rw [il_len] at t1 t2
      have hl' : (W0 ++ V'.reverse).length = W0.length + V'.length := by simp
      rw [hl'] at t1 t2
      have y94 : M4 218 94 = ((W0.length + V'.length : Nat) : Int) + 1 := t1
      have y95 : M4 218 95 = op := a3
      have hM6 : ∀ (i : Int), ¬ (i = 94 ∨ i = 95) → (st (st M4 218 94 ((W0.length + V'.length : Nat) : Int)) 218 95 ((op : Int) - 1)) 218 i = M4 218 i := fun i hi => by rw [st_self, su_ne _ _ (by omega), st_self, su_ne _ _ (by omega)]
      have hQ6 : QS (W0 ++ V'.reverse) (C ++ D) (op - 1) W0.length wh (st (st M4 218 94 ((W0.length + V'.length : Nat) : Int)) 218 95 ((op : Int) - 1)) := ⟨LSq_pop a1 (by rw [st_self, su_ne _ _ (by omega), st_self, su_self, t1]; omega) (by rw [st_ne _ _ _ (by omega), st_ne _ _ _ (by omega)]), LSq_frame a2 (hM6 92 (by omega)) (by rw [st_ne _ _ _ (by omega), st_ne _ _ _ (by omega)]), by rw [st_self, su_self]; omega, by rw [hM6 96 (by omega)]; exact a4, by rw [hM6 51 (by omega)]; exact a5⟩
      have hP6 : PQ g k (tkQ g k e) (nxB g k e nb) (st (st M4 218 94 ((W0.length + V'.length : Nat) : Int)) 218 95 ((op : Int) - 1)) := PQ_B hP3 (by rw [st_ne _ _ _ (by omega), st_ne _ _ _ (by omega), K4.1 219 (by omega)]) (fun i hi => by rw [hM6 i (by omega), f4 i (by omega)])
      have K6 : KB M4 (st (st M4 218 94 ((W0.length + V'.length : Nat) : Int)) 218 95 ((op : Int) - 1)) := ⟨fun b hb => by rw [st_ne _ _ _ (by omega), st_ne _ _ _ (by omega)], fun i hi => hM6 i (by omega)⟩
      have KB6 := KB_trans KB2 (KB_trans (KB_T K3) (KB_trans K4 K6))
      have y6w : (st (st M4 218 94 ((W0.length + V'.length : Nat) : Int)) 218 95 ((op : Int) - 1)) 289 ((W0.length + V'.length : Nat) : Int) = brk V := by rw [st_ne _ _ _ (by omega), st_ne _ _ _ (by omega)]; exact t2
      have y694 : (st (st M4 218 94 ((W0.length + V'.length : Nat) : Int)) 218 95 ((op : Int) - 1)) 218 94 = ((W0.length + V'.length : Nat) : Int) := by rw [st_self, su_ne _ _ (by omega), st_self, su_self]
      have y495 : (st M4 218 94 ((W0.length + V'.length : Nat) : Int)) 218 95 = op := by rw [st_self, su_ne _ _ (by omega)]; exact y95
      have e94 : ((W0.length + V'.length : Nat) : Int) + 1 - 1 = ((W0.length + V'.length : Nat) : Int) := by omega
      have hWK6 := WK_B hWK2 (KB_trans (KB_T K3) (KB_trans K4 K6))
      have hgo : ∀ T : Option Rs → Prop, (∀ l2, lk l2 0 = some (.ref 218) → T (Rn (X (d + 4)) 12 (some .boolean) false 2 cX12_qGoesOn (77, l2, [], (n, z, hp H (st (st M4 218 94 ((W0.length + V'.length : Nat) : Int)) 218 95 ((op : Int) - 1)))))) → T (Rn (X (d + 4)) 12 (some .boolean) false 2 cX12_qGoesOn (0, l1, [], (n, z, hp H M1))) := by
        intro T hT
        have hT' := hT l1 q0
        rw [Rm_aload_n (k := 0) rfl dX12_qGoesOn_0]
        rcases hA.2 with h | h | h
        · rw [h, Int.cast_ofNat_Int] at ebr
          simp (disch := omega) only [Rm_getfield fl_12_242 dX12_qGoesOn_1, Rn_if_ne (t := 122) rfl dX12_qGoesOn_4, Rm_aload_n (k := 0) rfl dX12_qGoesOn_7, Rm_inV0 (d := dX12_qGoesOn_8) (hy := mo_142) (h13 := rfl) ml_12_254 rfl, Rn_bipush (v := jI (41)) rfl dX12_qGoesOn_11, Rn_icmp_ne (t := 122) rfl dX12_qGoesOn_13, Rm_aload_n (k := 0) rfl dX12_qGoesOn_16, Rm_inV0 (d := dX12_qGoesOn_17) (hy := mo_243) (h13 := rfl) ml_12_631 rfl, Rn_bipush (v := jI (20)) rfl dX12_qGoesOn_20, Rn_icmp_eq (t := 43) rfl dX12_qGoesOn_22, Rm_aload_n (k := 0) rfl dX12_qGoesOn_25, Rm_inV0 (d := dX12_qGoesOn_26) (hy := mo_243) (h13 := rfl) ml_12_631 rfl, Rn_bipush (v := jI (23)) rfl dX12_qGoesOn_29, Rn_icmp_eq (t := 43) rfl dX12_qGoesOn_31, Rm_aload_n (k := 0) rfl dX12_qGoesOn_34, Rm_inV0 (d := dX12_qGoesOn_35) (hy := mo_243) (h13 := rfl) ml_12_631 rfl, Rn_bipush (v := jI (24)) rfl dX12_qGoesOn_38, Rn_icmp_ne (t := 122) rfl dX12_qGoesOn_40, Rm_aload_n (k := 0) rfl dX12_qGoesOn_43, Rn_dup_int dX12_qGoesOn_44, Rn_dup_ref dX12_qGoesOn_44, Rm_getfield fl_12_248 dX12_qGoesOn_45, Rn_iconst (v := jI (1)) rfl dX12_qGoesOn_48, Rn_iadd dX12_qGoesOn_49, Rm_putfieldI (ini := false) fl_12_248 rfl rfl dX12_qGoesOn_50, Rm_aload_n (k := 0) rfl dX12_qGoesOn_53, Rm_inV0 (d := dX12_qGoesOn_54) (hy := mo_244) (h13 := rfl) ml_12_634 rfl, Rm_aload_n (k := 0) rfl dX12_qGoesOn_57, Rn_dup_int dX12_qGoesOn_58, Rn_dup_ref dX12_qGoesOn_58, Rm_getfield fl_12_344 dX12_qGoesOn_59, Rn_iconst (v := jI (1)) rfl dX12_qGoesOn_62, Rn_isub dX12_qGoesOn_63, Rm_putfieldI (ini := false) fl_12_344 rfl rfl dX12_qGoesOn_64, Rm_aload_n (k := 0) rfl dX12_qGoesOn_67, Rn_dup_int dX12_qGoesOn_68, Rn_dup_ref dX12_qGoesOn_68, Rm_getfield fl_12_347 dX12_qGoesOn_69, Rn_iconst (v := jI (1)) rfl dX12_qGoesOn_72, Rn_isub dX12_qGoesOn_73, Rm_putfieldI (ini := false) fl_12_347 rfl rfl dX12_qGoesOn_74, gs12_2 k218, gs12_5 k218, gs12_94 k218, gs12_95 k218, io12 k218, ps12_2 k218, ps12_94 k218, ps12_95 k218, io12 k218, q0, y5, e2, p41, ebr, f3, e4, y94, e94, y495, qI_s, qJ_s, qR_s, qV_s, qX_s, qN_s, qW_s, qF_s, qC_s, Option.bind_some, Option.bind_none, Nat.reduceAdd, Nat.reduceBEq, Nat.reduceEqDiff, lk_nil, lk_cons, lk_pt1, lk_pt2i, isJ_i, isJ_r, isJ_l, gI_i, gJ_i, gR_i, Bool.false_eq_true, if_true, if_false, ite_true, ite_false, ↓reduceIte, len4_0, len4_1, len4_2, len4_3, len4_4, Option.toList_some, Option.toList_none, List.cons_append, List.nil_append, va_rf_s, up_hp, ofI_j, jI_add, jI_sub, jI_mul, jI_neg, jL_add, jL_sub, jL_mul, jI_jL, jL_jI, nar_i, nar_zj, lt_t, lt_f, le_t, le_f, eq_t, eq_f, ez_t, ez_f, lz_t, lz_f, gz_t, gz_f, nz_t, nz_f, pz_t, pz_f, lgc_gt, lgc_lt, lgc_ge, lgc_le, lgc_eq, Lt_t, Lt_f, Le_t, Le_f, Eq_t, Eq_f, dv_j, not_true_eq_false, not_false_eq_true, Int.reduceEq, Int.reduceAdd, Int.reduceSub, Int.reduceMul, Int.reduceNeg, Ez_t, Ez_f, dv_L, false_and, true_and, and_true, and_false]
          exact hT'
        · rw [h, Int.cast_ofNat_Int] at ebr
          simp (disch := omega) only [Rm_getfield fl_12_242 dX12_qGoesOn_1, Rn_if_ne (t := 122) rfl dX12_qGoesOn_4, Rm_aload_n (k := 0) rfl dX12_qGoesOn_7, Rm_inV0 (d := dX12_qGoesOn_8) (hy := mo_142) (h13 := rfl) ml_12_254 rfl, Rn_bipush (v := jI (41)) rfl dX12_qGoesOn_11, Rn_icmp_ne (t := 122) rfl dX12_qGoesOn_13, Rm_aload_n (k := 0) rfl dX12_qGoesOn_16, Rm_inV0 (d := dX12_qGoesOn_17) (hy := mo_243) (h13 := rfl) ml_12_631 rfl, Rn_bipush (v := jI (20)) rfl dX12_qGoesOn_20, Rn_icmp_eq (t := 43) rfl dX12_qGoesOn_22, Rm_aload_n (k := 0) rfl dX12_qGoesOn_25, Rm_inV0 (d := dX12_qGoesOn_26) (hy := mo_243) (h13 := rfl) ml_12_631 rfl, Rn_bipush (v := jI (23)) rfl dX12_qGoesOn_29, Rn_icmp_eq (t := 43) rfl dX12_qGoesOn_31, Rm_aload_n (k := 0) rfl dX12_qGoesOn_34, Rm_inV0 (d := dX12_qGoesOn_35) (hy := mo_243) (h13 := rfl) ml_12_631 rfl, Rn_bipush (v := jI (24)) rfl dX12_qGoesOn_38, Rn_icmp_ne (t := 122) rfl dX12_qGoesOn_40, Rm_aload_n (k := 0) rfl dX12_qGoesOn_43, Rn_dup_int dX12_qGoesOn_44, Rn_dup_ref dX12_qGoesOn_44, Rm_getfield fl_12_248 dX12_qGoesOn_45, Rn_iconst (v := jI (1)) rfl dX12_qGoesOn_48, Rn_iadd dX12_qGoesOn_49, Rm_putfieldI (ini := false) fl_12_248 rfl rfl dX12_qGoesOn_50, Rm_aload_n (k := 0) rfl dX12_qGoesOn_53, Rm_inV0 (d := dX12_qGoesOn_54) (hy := mo_244) (h13 := rfl) ml_12_634 rfl, Rm_aload_n (k := 0) rfl dX12_qGoesOn_57, Rn_dup_int dX12_qGoesOn_58, Rn_dup_ref dX12_qGoesOn_58, Rm_getfield fl_12_344 dX12_qGoesOn_59, Rn_iconst (v := jI (1)) rfl dX12_qGoesOn_62, Rn_isub dX12_qGoesOn_63, Rm_putfieldI (ini := false) fl_12_344 rfl rfl dX12_qGoesOn_64, Rm_aload_n (k := 0) rfl dX12_qGoesOn_67, Rn_dup_int dX12_qGoesOn_68, Rn_dup_ref dX12_qGoesOn_68, Rm_getfield fl_12_347 dX12_qGoesOn_69, Rn_iconst (v := jI (1)) rfl dX12_qGoesOn_72, Rn_isub dX12_qGoesOn_73, Rm_putfieldI (ini := false) fl_12_347 rfl rfl dX12_qGoesOn_74, gs12_2 k218, gs12_5 k218, gs12_94 k218, gs12_95 k218, io12 k218, ps12_2 k218, ps12_94 k218, ps12_95 k218, io12 k218, q0, y5, e2, p41, ebr, f3, e4, y94, e94, y495, qI_s, qJ_s, qR_s, qV_s, qX_s, qN_s, qW_s, qF_s, qC_s, Option.bind_some, Option.bind_none, Nat.reduceAdd, Nat.reduceBEq, Nat.reduceEqDiff, lk_nil, lk_cons, lk_pt1, lk_pt2i, isJ_i, isJ_r, isJ_l, gI_i, gJ_i, gR_i, Bool.false_eq_true, if_true, if_false, ite_true, ite_false, ↓reduceIte, len4_0, len4_1, len4_2, len4_3, len4_4, Option.toList_some, Option.toList_none, List.cons_append, List.nil_append, va_rf_s, up_hp, ofI_j, jI_add, jI_sub, jI_mul, jI_neg, jL_add, jL_sub, jL_mul, jI_jL, jL_jI, nar_i, nar_zj, lt_t, lt_f, le_t, le_f, eq_t, eq_f, ez_t, ez_f, lz_t, lz_f, gz_t, gz_f, nz_t, nz_f, pz_t, pz_f, lgc_gt, lgc_lt, lgc_ge, lgc_le, lgc_eq, Lt_t, Lt_f, Le_t, Le_f, Eq_t, Eq_f, dv_j, not_true_eq_false, not_false_eq_true, Int.reduceEq, Int.reduceAdd, Int.reduceSub, Int.reduceMul, Int.reduceNeg, Ez_t, Ez_f, dv_L, false_and, true_and, and_true, and_false]
          exact hT'
        · rw [h, Int.cast_ofNat_Int] at ebr
          simp (disch := omega) only [Rm_getfield fl_12_242 dX12_qGoesOn_1, Rn_if_ne (t := 122) rfl dX12_qGoesOn_4, Rm_aload_n (k := 0) rfl dX12_qGoesOn_7, Rm_inV0 (d := dX12_qGoesOn_8) (hy := mo_142) (h13 := rfl) ml_12_254 rfl, Rn_bipush (v := jI (41)) rfl dX12_qGoesOn_11, Rn_icmp_ne (t := 122) rfl dX12_qGoesOn_13, Rm_aload_n (k := 0) rfl dX12_qGoesOn_16, Rm_inV0 (d := dX12_qGoesOn_17) (hy := mo_243) (h13 := rfl) ml_12_631 rfl, Rn_bipush (v := jI (20)) rfl dX12_qGoesOn_20, Rn_icmp_eq (t := 43) rfl dX12_qGoesOn_22, Rm_aload_n (k := 0) rfl dX12_qGoesOn_25, Rm_inV0 (d := dX12_qGoesOn_26) (hy := mo_243) (h13 := rfl) ml_12_631 rfl, Rn_bipush (v := jI (23)) rfl dX12_qGoesOn_29, Rn_icmp_eq (t := 43) rfl dX12_qGoesOn_31, Rm_aload_n (k := 0) rfl dX12_qGoesOn_34, Rm_inV0 (d := dX12_qGoesOn_35) (hy := mo_243) (h13 := rfl) ml_12_631 rfl, Rn_bipush (v := jI (24)) rfl dX12_qGoesOn_38, Rn_icmp_ne (t := 122) rfl dX12_qGoesOn_40, Rm_aload_n (k := 0) rfl dX12_qGoesOn_43, Rn_dup_int dX12_qGoesOn_44, Rn_dup_ref dX12_qGoesOn_44, Rm_getfield fl_12_248 dX12_qGoesOn_45, Rn_iconst (v := jI (1)) rfl dX12_qGoesOn_48, Rn_iadd dX12_qGoesOn_49, Rm_putfieldI (ini := false) fl_12_248 rfl rfl dX12_qGoesOn_50, Rm_aload_n (k := 0) rfl dX12_qGoesOn_53, Rm_inV0 (d := dX12_qGoesOn_54) (hy := mo_244) (h13 := rfl) ml_12_634 rfl, Rm_aload_n (k := 0) rfl dX12_qGoesOn_57, Rn_dup_int dX12_qGoesOn_58, Rn_dup_ref dX12_qGoesOn_58, Rm_getfield fl_12_344 dX12_qGoesOn_59, Rn_iconst (v := jI (1)) rfl dX12_qGoesOn_62, Rn_isub dX12_qGoesOn_63, Rm_putfieldI (ini := false) fl_12_344 rfl rfl dX12_qGoesOn_64, Rm_aload_n (k := 0) rfl dX12_qGoesOn_67, Rn_dup_int dX12_qGoesOn_68, Rn_dup_ref dX12_qGoesOn_68, Rm_getfield fl_12_347 dX12_qGoesOn_69, Rn_iconst (v := jI (1)) rfl dX12_qGoesOn_72, Rn_isub dX12_qGoesOn_73, Rm_putfieldI (ini := false) fl_12_347 rfl rfl dX12_qGoesOn_74, gs12_2 k218, gs12_5 k218, gs12_94 k218, gs12_95 k218, io12 k218, ps12_2 k218, ps12_94 k218, ps12_95 k218, io12 k218, q0, y5, e2, p41, ebr, f3, e4, y94, e94, y495, qI_s, qJ_s, qR_s, qV_s, qX_s, qN_s, qW_s, qF_s, qC_s, Option.bind_some, Option.bind_none, Nat.reduceAdd, Nat.reduceBEq, Nat.reduceEqDiff, lk_nil, lk_cons, lk_pt1, lk_pt2i, isJ_i, isJ_r, isJ_l, gI_i, gJ_i, gR_i, Bool.false_eq_true, if_true, if_false, ite_true, ite_false, ↓reduceIte, len4_0, len4_1, len4_2, len4_3, len4_4, Option.toList_some, Option.toList_none, List.cons_append, List.nil_append, va_rf_s, up_hp, ofI_j, jI_add, jI_sub, jI_mul, jI_neg, jL_add, jL_sub, jL_mul, jI_jL, jL_jI, nar_i, nar_zj, lt_t, lt_f, le_t, le_f, eq_t, eq_f, ez_t, ez_f, lz_t, lz_f, gz_t, gz_f, nz_t, nz_f, pz_t, pz_f, lgc_gt, lgc_lt, lgc_ge, lgc_le, lgc_eq, Lt_t, Lt_f, Le_t, Le_f, Eq_t, Eq_f, dv_j, not_true_eq_false, not_false_eq_true, Int.reduceEq, Int.reduceAdd, Int.reduceSub, Int.reduceMul, Int.reduceNeg, Ez_t, Ez_f, dv_L, false_and, true_and, and_true, and_false]
          exact hT'
      refine hgo G (fun l2 b0 => ?_)
      clear hgo
      generalize st (st M4 218 94 ((W0.length + V'.length : Nat) : Int)) 218 95 ((op : Int) - 1) = M6 at *
      have hV' : ∀ x ∈ V', x < 1000 := fun x hx => hV x ((List.dropWhile_sublist (fun x => !isBr x)).subset (by rw [hdw]; exact List.mem_cons_of_mem _ hx))
      have tail : ∀ (E : List Nat) (M7 : Me) (l3 : Lo), E.length ≤ 1 → mst g k wh (2, e, nb, op, V, C) = (1, tkQ g k e, nxB g k e nb, op - 1, V', C ++ D ++ E) → QS (W0 ++ V'.reverse) (C ++ D ++ E) (op - 1) W0.length wh M7 → PQ g k (tkQ g k e) (nxB g k e nb) M7 → WK M7 → KB M M7 → lk l3 0 = some (.ref 218) → G (Rn (X (d + 4)) 12 (some .boolean) false 2 cX12_qGoesOn (115, l3, [], (n, z, hp H M7))) := by
        intro E M7 l3 hE hms' hQ7 hP7 hWK7 KB7 b0
        have hci7 : CI k W0.length (1, tkQ g k e, nxB g k e nb, op - 1, V', C ++ D ++ E) := by
          refine ⟨hn.2, by show op - 1 ≤ 6; omega, by show cntO V' ≤ op - 1; omega, hV', ?_⟩
          show W0.length + V'.length + (C ++ D ++ E).length ≤ tkQ g k e
          simp only [List.length_append]
          omega
        have ct := cntO_of V'
        obtain ⟨M8, e8, hQ8, K8, f8⟩ := m_qEndsPart (n := n) (z := z) (H := H) (by simp only [List.length_append, List.length_reverse]; omega) hV' hQ7 hP7.2.2.2.2.1 (by omega) (d + 1)
        have hi := fun l5 b0 => ih (k - tkQ g k e) (by omega) _ _ _ _ _ M8 l5 rfl (CI_ends hci7) ⟨PQ_B hP7 (K8.1 219 (by omega)) (fun i hi => f8 i (by omega)), hQ8, WK_B hWK7 K8⟩ (KB_trans KB7 K8) (by
          obtain ⟨m, h⟩ := hst _ hms'
          exact ⟨(m + 1) + ((V'.takeWhile fun x => decide (60 ≤ x)).length + 1), by rw [mit_add, h]; exact mit_ends⟩) b0
        rw [Rm_aload_n (k := 0) rfl dX12_qGoesOn_115]
        simp (disch := omega) only [Rm_inV0 (d := dX12_qGoesOn_116) (hy := mo_248) (h13 := rfl) ml_12_628 rfl, Rn_goto (t := 0) rfl dX12_qGoesOn_119, io12 k218, io12 k218, b0, e8, qI_s, qJ_s, qR_s, qV_s, qX_s, qN_s, qW_s, qF_s, qC_s, Option.bind_some, Option.bind_none, Nat.reduceAdd, Nat.reduceBEq, Nat.reduceEqDiff, lk_nil, lk_cons, lk_pt1, lk_pt2i, isJ_i, isJ_r, isJ_l, gI_i, gJ_i, gR_i, Bool.false_eq_true, if_true, if_false, ite_true, ite_false, ↓reduceIte, len4_0, len4_1, len4_2, len4_3, len4_4, Option.toList_some, Option.toList_none, List.cons_append, List.nil_append, va_rf_s, up_hp, ofI_j, jI_add, jI_sub, jI_mul, jI_neg, jL_add, jL_sub, jL_mul, jI_jL, jL_jI, nar_i, nar_zj, lt_t, lt_f, le_t, le_f, eq_t, eq_f, ez_t, ez_f, lz_t, lz_f, gz_t, gz_f, nz_t, nz_f, pz_t, pz_f, lgc_gt, lgc_lt, lgc_ge, lgc_le, lgc_eq, Lt_t, Lt_f, Le_t, Le_f, Eq_t, Eq_f, dv_j, not_true_eq_false, not_false_eq_true, Int.reduceEq, Int.reduceAdd, Int.reduceSub, Int.reduceMul, Int.reduceNeg, Ez_t, Ez_f, dv_L, false_and, true_and, and_true, and_false]
        exact hi _ b0
      rw [Rm_aload_n (k := 0) rfl dX12_qGoesOn_77]
      by_cases h20 : brk V = 20
      · rw [if_pos h20] at hms
        rw [h20, Int.cast_ofNat_Int] at y6w
        have ht := fun l3 b0 => tail [] M6 l3 (by simp) hms (by simpa using hQ6) hP6 hWK6 KB6 b0
        simp (disch := omega) only [Rm_getfield fl_12_230 dX12_qGoesOn_78, Rm_aload_n (k := 0) rfl dX12_qGoesOn_81, Rm_getfield fl_12_344 dX12_qGoesOn_82, Rm_iaload dX12_qGoesOn_85, Rn_bipush (v := jI (20)) rfl dX12_qGoesOn_86, Rn_icmp_eq (t := 115) rfl dX12_qGoesOn_88, gs12_93 k218, rdM k289 l289, wrM k289 l289, alM k289 l289, gs12_94 k218, b0, y694, y6w, qI_s, qJ_s, qR_s, qV_s, qX_s, qN_s, qW_s, qF_s, qC_s, Option.bind_some, Option.bind_none, Nat.reduceAdd, Nat.reduceBEq, Nat.reduceEqDiff, lk_nil, lk_cons, lk_pt1, lk_pt2i, isJ_i, isJ_r, isJ_l, gI_i, gJ_i, gR_i, Bool.false_eq_true, if_true, if_false, ite_true, ite_false, ↓reduceIte, len4_0, len4_1, len4_2, len4_3, len4_4, Option.toList_some, Option.toList_none, List.cons_append, List.nil_append, va_rf_s, up_hp, ofI_j, jI_add, jI_sub, jI_mul, jI_neg, jL_add, jL_sub, jL_mul, jI_jL, jL_jI, nar_i, nar_zj, lt_t, lt_f, le_t, le_f, eq_t, eq_f, ez_t, ez_f, lz_t, lz_f, gz_t, gz_f, nz_t, nz_f, pz_t, pz_f, lgc_gt, lgc_lt, lgc_ge, lgc_le, lgc_eq, Lt_t, Lt_f, Le_t, Le_f, Eq_t, Eq_f, dv_j, not_true_eq_false, not_false_eq_true, Int.reduceEq, Int.reduceAdd, Int.reduceSub, Int.reduceMul, Int.reduceNeg, Ez_t, Ez_f, dv_L, false_and, true_and, and_true, and_false]
        exact ht _ b0
      · by_cases h23 : brk V = 23
        · rw [if_neg h20, if_pos h23] at hms
          rw [h23, Int.cast_ofNat_Int] at y6w
          obtain ⟨M7, e7, hQ7, K7, f7⟩ := m_qCode (n := n) (z := z) (H := H) hQ6 (by simp only [List.length_append]; omega) 5 (d + 3)
          rw [Int.cast_ofNat_Int] at e7
          have ht := fun l3 b0 => tail [5] M7 l3 (by simp) hms hQ7 (PQ_B hP6 (K7.1 219 (by omega)) (fun i hi => f7 i (by omega))) (WK_B hWK6 K7) (KB_trans KB6 K7) b0
          simp (disch := omega) only [Rm_getfield fl_12_230 dX12_qGoesOn_78, Rm_aload_n (k := 0) rfl dX12_qGoesOn_81, Rm_getfield fl_12_344 dX12_qGoesOn_82, Rm_iaload dX12_qGoesOn_85, Rn_bipush (v := jI (20)) rfl dX12_qGoesOn_86, Rn_icmp_eq (t := 115) rfl dX12_qGoesOn_88, Rm_aload_n (k := 0) rfl dX12_qGoesOn_91, Rm_aload_n (k := 0) rfl dX12_qGoesOn_92, Rm_getfield fl_12_230 dX12_qGoesOn_93, Rm_aload_n (k := 0) rfl dX12_qGoesOn_96, Rm_getfield fl_12_344 dX12_qGoesOn_97, Rm_iaload dX12_qGoesOn_100, Rn_bipush (v := jI (23)) rfl dX12_qGoesOn_101, Rn_icmp_ne (t := 110) rfl dX12_qGoesOn_103, Rn_iconst (v := jI (5)) rfl dX12_qGoesOn_106, Rn_goto (t := 112) rfl dX12_qGoesOn_107, Rn_bipush (v := jI (6)) rfl dX12_qGoesOn_110, Rm_inV1 (d := dX12_qGoesOn_112) (hy := mo_238) (h13 := rfl) ml_12_604 rfl, gs12_93 k218, rdM k289 l289, wrM k289 l289, alM k289 l289, gs12_94 k218, io12 k218, io12 k218, b0, y694, y6w, e7, qI_s, qJ_s, qR_s, qV_s, qX_s, qN_s, qW_s, qF_s, qC_s, Option.bind_some, Option.bind_none, Nat.reduceAdd, Nat.reduceBEq, Nat.reduceEqDiff, lk_nil, lk_cons, lk_pt1, lk_pt2i, isJ_i, isJ_r, isJ_l, gI_i, gJ_i, gR_i, Bool.false_eq_true, if_true, if_false, ite_true, ite_false, ↓reduceIte, len4_0, len4_1, len4_2, len4_3, len4_4, Option.toList_some, Option.toList_none, List.cons_append, List.nil_append, va_rf_s, up_hp, ofI_j, jI_add, jI_sub, jI_mul, jI_neg, jL_add, jL_sub, jL_mul, jI_jL, jL_jI, nar_i, nar_zj, lt_t, lt_f, le_t, le_f, eq_t, eq_f, ez_t, ez_f, lz_t, lz_f, gz_t, gz_f, nz_t, nz_f, pz_t, pz_f, lgc_gt, lgc_lt, lgc_ge, lgc_le, lgc_eq, Lt_t, Lt_f, Le_t, Le_f, Eq_t, Eq_f, dv_j, not_true_eq_false, not_false_eq_true, Int.reduceEq, Int.reduceAdd, Int.reduceSub, Int.reduceMul, Int.reduceNeg, Ez_t, Ez_f, dv_L, false_and, true_and, and_true, and_false]
          exact ht _ b0
        · have h24 : brk V = 24 := by omega
          rw [if_neg h20, if_neg h23] at hms
          rw [h24, Int.cast_ofNat_Int] at y6w
          obtain ⟨M7, e7, hQ7, K7, f7⟩ := m_qCode (n := n) (z := z) (H := H) hQ6 (by simp only [List.length_append]; omega) 6 (d + 3)
          rw [Int.cast_ofNat_Int] at e7
          have ht := fun l3 b0 => tail [6] M7 l3 (by simp) hms hQ7 (PQ_B hP6 (K7.1 219 (by omega)) (fun i hi => f7 i (by omega))) (WK_B hWK6 K7) (KB_trans KB6 K7) b0
          simp (disch := omega) only [Rm_getfield fl_12_230 dX12_qGoesOn_78, Rm_aload_n (k := 0) rfl dX12_qGoesOn_81, Rm_getfield fl_12_344 dX12_qGoesOn_82, Rm_iaload dX12_qGoesOn_85, Rn_bipush (v := jI (20)) rfl dX12_qGoesOn_86, Rn_icmp_eq (t := 115) rfl dX12_qGoesOn_88, Rm_aload_n (k := 0) rfl dX12_qGoesOn_91, Rm_aload_n (k := 0) rfl dX12_qGoesOn_92, Rm_getfield fl_12_230 dX12_qGoesOn_93, Rm_aload_n (k := 0) rfl dX12_qGoesOn_96, Rm_getfield fl_12_344 dX12_qGoesOn_97, Rm_iaload dX12_qGoesOn_100, Rn_bipush (v := jI (23)) rfl dX12_qGoesOn_101, Rn_icmp_ne (t := 110) rfl dX12_qGoesOn_103, Rn_iconst (v := jI (5)) rfl dX12_qGoesOn_106, Rn_goto (t := 112) rfl dX12_qGoesOn_107, Rn_bipush (v := jI (6)) rfl dX12_qGoesOn_110, Rm_inV1 (d := dX12_qGoesOn_112) (hy := mo_238) (h13 := rfl) ml_12_604 rfl, gs12_93 k218, rdM k289 l289, wrM k289 l289, alM k289 l289, gs12_94 k218, io12 k218, io12 k218, b0, y694, y6w, e7, qI_s, qJ_s, qR_s, qV_s, qX_s, qN_s, qW_s, qF_s, qC_s, Option.bind_some, Option.bind_none, Nat.reduceAdd, Nat.reduceBEq, Nat.reduceEqDiff, lk_nil, lk_cons, lk_pt1, lk_pt2i, isJ_i, isJ_r, isJ_l, gI_i, gJ_i, gR_i, Bool.false_eq_true, if_true, if_false, ite_true, ite_false, ↓reduceIte, len4_0, len4_1, len4_2, len4_3, len4_4, Option.toList_some, Option.toList_none, List.cons_append, List.nil_append, va_rf_s, up_hp, ofI_j, jI_add, jI_sub, jI_mul, jI_neg, jL_add, jL_sub, jL_mul, jI_jL, jL_jI, nar_i, nar_zj, lt_t, lt_f, le_t, le_f, eq_t, eq_f, ez_t, ez_f, lz_t, lz_f, gz_t, gz_f, nz_t, nz_f, pz_t, pz_f, lgc_gt, lgc_lt, lgc_ge, lgc_le, lgc_eq, Lt_t, Lt_f, Le_t, Le_f, Eq_t, Eq_f, dv_j, not_true_eq_false, not_false_eq_true, Int.reduceEq, Int.reduceAdd, Int.reduceSub, Int.reduceMul, Int.reduceNeg, Ez_t, Ez_f, dv_L, false_and, true_and, and_true, and_false]
          exact ht _ b0
    · rw [if_neg hA] at hms
      sorry
  rw [Xe_X12_qGoesOn]
  obtain ⟨ph, e, nb, op, V, C⟩ := c0
  dsimp only at h0
  subst h0
  exact key _ e op nb V C M _ rfl hc hM (KB_refl M) ⟨0, rfl⟩ (by simp [Option.bind_some, Option.bind_none, Nat.reduceAdd, Nat.reduceBEq, Nat.reduceEqDiff, lk_nil, lk_cons, lk_pt1, lk_pt2, lk_pt2b, isJ_i, isJ_r, isJ_l, gI_i, gJ_i, gR_i, Bool.false_eq_true, if_true, if_false, ite_true, ite_false, reduceIte, len4_0, len4_1, len4_2, len4_3, len4_4, Option.toList_some, Option.toList_none, List.cons_append, List.nil_append, gf_o, isO_o, pf_o, List.length_cons, List.length_nil, List.getElem?_cons_zero, List.getElem?_cons_succ, List.set_cons_zero, List.set_cons_succ, va_rf_s, up_self, rdi_a, rdi_5, rdi_0, rdi_4, wri_a, rdl_a, wrl_a, rdr_a, wrr_a, aln_0, aln_1, aln_3, aln_4, aln_5, ofI_1, ofI_m1])
end

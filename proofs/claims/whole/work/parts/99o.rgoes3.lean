/-! behind a part: all of it -/
def GoE (g : Int → Int) (k wh : Nat) (W0 : List Nat) (c0 : Cfg) (v : Int) (M' : Me) : Prop := (v = 1 ∧ ∃ c' : Cfg, (∃ m, mit g k wh (m + 1) c0 = c') ∧ c'.1 = 0 ∧ CI k W0.length c' ∧ RCf g k wh W0 c' M') ∨ (v = 0 ∧ ∃ c' : Cfg, (∃ m, mit g k wh (m + 1) c0 = c') ∧ c'.1 = 4 ∧ CI k W0.length c' ∧ RCf g k wh W0 c' M') ∨ (v = 0 ∧ ∃ a p : Nat, (∃ m, mit g k wh (m + 1) c0 = Flt a p) ∧ (1 ≤ a ∧ a < 100) ∧ FL M' a p ∧ QB M')
theorem LSq_set {M : Me} {a b : Nat} {i : Int} {A : List Int} {x y : Int} (hab : ¬ b = a) (h : LSq M a i b (A ++ [x])) : LSq (st M b A.length y) a i b (A ++ [y]) := by
  refine ⟨by rw [st_ne _ _ _ (fun e => hab e.symm), h.1]; simp, fun j w hw => ?_⟩
  rw [st_self, su_app]
  rw [List.getElem?_append] at hw
  split at hw
  · rename_i q
    rw [if_neg (by omega)]
    exact h.2 j w (by rw [List.getElem?_append_left q]; exact hw)
  · rename_i q
    by_cases e : j = A.length
    · subst e
      rw [Nat.sub_self] at hw
      rw [if_pos rfl]
      simpa using hw
    · rw [List.getElem?_eq_none (by simp; omega)] at hw
      cases hw
theorem Sg_g {g : Int → Int} {k e : Nat} {c : Int} (h : isSg g k e c) : g (skp g k e) = c := by
  have hPk : skp g k e < k := Classical.not_not.mp (fun q => by have := tkK_0.mpr q; have := h.1; omega)
  have h2 := h.2
  unfold vaF at h2
  rw [if_neg (by have := h.1; omega), if_neg (by have := h.1; omega), if_pos h.1] at h2
  exact h2
section
variable {n z : Nat} {H : Nat → AC} {g : Int → Int} {k wh : Nat} {W0 : List Nat}
theorem m2_eq (e op : Nat) (nb : Bool) (V C : List Nat) : mst g k wh (2, e, nb, op, V, C) = @ite _ (isSg g k e 41 ∧ (brk V = 20 ∨ brk V = 23 ∨ brk V = 24)) (Classical.propDecidable _) (1, tkQ g k e, nxB g k e nb, op - 1, (V.dropWhile fun x => !isBr x).tail, C ++ (V.takeWhile fun x => !isBr x) ++ (if brk V = 20 then [] else if brk V = 23 then [5] else [6]))
    (@ite _ (isSg g k e 42 ∨ isSg g k e 47) (Classical.propDecidable _) (0, tkQ g k e, nxB g k e nb, op, (if vaF g k e = 42 then 3 else 4) :: V.dropWhile isMu, C ++ V.takeWhile isMu)
    (@ite _ (isSg g k e 43 ∨ isSg g k e 45) (Classical.propDecidable _) (0, tkQ g k e, nxB g k e nb, op, (if vaF g k e = 43 then 1 else 2) :: V.dropWhile isAr, C ++ V.takeWhile isAr)
    (if brk V = 21 ∨ brk V = 22 then @ite _ (isSg g k e 44) (Classical.propDecidable _) (0, tkQ g k e, nxB g k e nb, op, (brk V + 2) :: (V.dropWhile fun x => !isBr x).tail, C ++ (V.takeWhile fun x => !isBr x)) (Flt 1 (skp g k e))
    else if brk V = 0 then (4, e, nb, op, V, C) else Flt 1 (skp g k e)))) := by
  unfold mst
  dsimp only
  rw [if_neg (by omega), if_neg (by omega), if_pos rfl]
/-- a sign after drops -/
theorem CI_sign {w e e' op s : Nat} {nb nb' : Bool} {V C : List Nat} (p : Nat → Bool) (hp : ∀ x, p x = true → x < 20) (h : CI k w (2, e, nb, op, V, C)) (h1 : e < e') (h2 : e' ≤ k) (hs : s < 20) : CI k w (0, e', nb', op, s :: V.dropWhile p, C ++ V.takeWhile p) := by
  obtain ⟨a1, a2, a3, a4, a5⟩ := h
  dsimp only at a1 a2 a3 a4 a5
  have s1 := cntO_split p V
  have s2 := len_split p V
  refine ⟨h2, a2, ?_, fun x hx => ?_, ?_⟩
  · show cntO (V.dropWhile p) + (if 20 ≤ s then 1 else 0) ≤ op
    rw [if_neg (by omega)]
    omega
  · have hx : x ∈ s :: V.dropWhile p := hx
    rw [List.mem_cons] at hx
    rcases hx with rfl | hx
    · omega
    · exact a4 x ((List.dropWhile_sublist _).subset hx)
  · show w + (s :: V.dropWhile p).length + (C ++ V.takeWhile p).length ≤ e'
    rw [List.length_cons, List.length_append]
    omega
set_option maxHeartbeats 8000000 in
theorem m_qGoesOn (hb : Byt g k) (hk : k ≤ 1600) (hW0 : ∀ x ∈ W0, 10 ≤ x ∧ x < 1000) {M : Me} {c0 : Cfg} (h0 : c0.1 = 2) (hc : CI k W0.length c0) (hM : RCf g k wh W0 c0 M) (d : Nat) :
    ∃ (v : Int) (M' : Me), X (d + 5) 250 [.ref 218] (n, z, hp H M) = some (some (.int (jI v)), (n, z, hp H M')) ∧ KB M M' ∧ GoE g k wh W0 c0 v M' := by
  refine ex2_of fun G hG => ?_
  have key : ∀ μ : Nat, ∀ (e op : Nat) (nb : Bool) (V C : List Nat) (M1 : Me) (l1 : Lo), k - e = μ → CI k W0.length (2, e, nb, op, V, C) → RCf g k wh W0 (2, e, nb, op, V, C) M1 → KB M M1 → (∃ m, mit g k wh m c0 = (2, e, nb, op, V, C)) → lk l1 0 = some (.ref 218) → G (Rn (X (d + 4)) 12 (some .boolean) false 2 cX12_qGoesOn (0, l1, [], (n, z, hp H M1))) := by
    intro μ
    induction μ using Nat.strongRecOn with
    | ind μ ih =>
    intro e op nb V C M1 l1 hμ hci hR hKB hmm q0
    obtain ⟨mm, hmm⟩ := hmm
    have hms := m2_eq (g := g) (k := k) (wh := wh) e op nb V C
    have hst : ∀ c', mst g k wh (2, e, nb, op, V, C) = c' → ∃ m, mit g k wh (m + 1) c0 = c' := fun c' h => ⟨mm, by rw [mit_snoc, hmm, h]⟩
    obtain ⟨hP, hQ, hWK⟩ := id hR
    dsimp only at hP hQ
    obtain ⟨he, hop, hcnt, hV, hlen⟩ := id hci
    dsimp only at he hop hcnt hV hlen
    have hlW : (W0 ++ V.reverse).length = W0.length + V.length := by simp
    have y5 : M1 218 5 = 0 := hP.2.2.2.2.1
    obtain ⟨M2, e2, f1, f2, f3⟩ := m_peeks (n := n) (z := z) (H := H) hb hk he hP.1 hP.2.1 hP.2.2.1 (d + 3)
    have hP2 := PQ_pk he hP f1 f2 f3
    have K2 : KT M1 M2 := KT_2 f1 f2
    have hQ2 := QS_T hQ K2
    have hWK2 := WK_T hWK K2
    have KB2 : KB M M2 := KB_trans hKB (KB_T K2)
    have pr := pkV_rng hb he
    have i41 := pk_Sg (g := g) (k := k) (e := e) (c := 41) (by decide) (by omega)
    have ebr := m_qBracket (n := n) (z := z) (H := H) hQ2 (by rw [hlW]; omega) hV (d + 2)
    have hbr1000 : brk V < 1000 := by
      by_cases h : brk V = 0
      · omega
      · obtain ⟨V', -, h1, h2⟩ := brk_dec h; omega
    have y52 : M2 218 5 = 0 := hP2.2.2.2.2.1
    by_cases hA : isSg g k e 41 ∧ (brk V = 20 ∨ brk V = 23 ∨ brk V = 24)
    · have p41 := i41.mpr hA.1
      have hn := nx_step (g := g) he (by have := Sg_K hA.1; omega)
      rw [if_pos hA] at hms
      obtain ⟨V', hdw, hb1, hb2⟩ := brk_dec (V := V) (by omega)
      rw [hdw, List.tail_cons] at hms
      rw [if_neg (by omega)] at ebr
      have hP3 := PQ_sg he hP2 hA.1
      have K3 : KT M2 (st M2 218 2 (skp g k e + 1)) := KT_st (KT_refl M2) (by omega)
      have hQ3 := QS_T hQ2 K3
      obtain ⟨M4, e4, hQ4, K4, f4⟩ := m_qDropsToBracket (n := n) (z := z) (H := H) (by rw [hlW]; omega) hV hQ3 (d + 1)
      rw [hdw, List.reverse_cons, ← List.append_assoc] at hQ4
      obtain ⟨a1, a2, a3, a4, a5⟩ := hQ4
      have s1 := cntO_split (fun x => !isBr x) V
      have s2 := len_split (fun x => !isBr x) V
      rw [hdw] at s1 s2
      simp only [cntO, List.length_cons] at s1 s2
      rw [if_pos (by omega)] at s1
      generalize hD : V.takeWhile (fun x => !isBr x) = D at *
      rw [il_app] at a1
      obtain ⟨t1, t2⟩ := LSq_top (x := (brk V : Int)) a1
      rw [il_len] at t1 t2
      have hl' : (W0 ++ V'.reverse).length = W0.length + V'.length := by simp
      rw [hl'] at t1 t2
      have y94 : M4 218 94 = ((W0.length + V'.length : Nat) : Int) + 1 := t1
      have y95 : M4 218 95 = op := a3
      have hM6 : ∀ (i : Int), ¬ (i = 94 ∨ i = 95) → (st (st M4 218 94 ((W0.length + V'.length : Nat) : Int)) 218 95 ((op : Int) - 1)) 218 i = M4 218 i := fun i hi => by rw [st_self, su_ne _ _ (by omega), st_self, su_ne _ _ (by omega)]
      have hQ6 : QS (W0 ++ V'.reverse) (C ++ D) (op - 1) W0.length wh (st (st M4 218 94 ((W0.length + V'.length : Nat) : Int)) 218 95 ((op : Int) - 1)) := ⟨LSq_pop a1 (by rw [st_self, su_ne _ _ (by omega), st_self, su_self, t1]; omega) (by rw [st_ne _ _ _ (by omega), st_ne _ _ _ (by omega)]), LSq_frame a2 (hM6 92 (by omega)) (by rw [st_ne _ _ _ (by omega), st_ne _ _ _ (by omega)]), by rw [st_self, su_self]; omega, by rw [hM6 96 (by omega)]; exact a4, by rw [hM6 51 (by omega)]; exact a5⟩
      have hP6 : PQ g k (tkQ g k e) (nxB g k e nb) (st (st M4 218 94 ((W0.length + V'.length : Nat) : Int)) 218 95 ((op : Int) - 1)) := PQ_B hP3 (by rw [st_ne _ _ _ (by omega), st_ne _ _ _ (by omega), K4.1 219 (by omega)]) (fun i hi => by rw [hM6 i (by omega), f4 i (by omega)])
      have K6 : KB M4 (st (st M4 218 94 ((W0.length + V'.length : Nat) : Int)) 218 95 ((op : Int) - 1)) := ⟨fun b hb => by rw [st_ne _ _ _ (by omega), st_ne _ _ _ (by omega)], fun i hi => hM6 i (by omega)⟩
      have KB6 := KB_trans KB2 (KB_trans (KB_T K3) (KB_trans K4 K6))
      have y6w : (st (st M4 218 94 ((W0.length + V'.length : Nat) : Int)) 218 95 ((op : Int) - 1)) 289 ((W0.length + V'.length : Nat) : Int) = brk V := by rw [st_ne _ _ _ (by omega), st_ne _ _ _ (by omega)]; exact t2
      have y694 : (st (st M4 218 94 ((W0.length + V'.length : Nat) : Int)) 218 95 ((op : Int) - 1)) 218 94 = ((W0.length + V'.length : Nat) : Int) := by rw [st_self, su_ne _ _ (by omega), st_self, su_self]
      have y495 : (st M4 218 94 ((W0.length + V'.length : Nat) : Int)) 218 95 = op := by rw [st_self, su_ne _ _ (by omega)]; exact y95
      have e94 : ((W0.length + V'.length : Nat) : Int) + 1 - 1 = ((W0.length + V'.length : Nat) : Int) := by omega
      have hWK6 := WK_B hWK2 (KB_trans (KB_T K3) (KB_trans K4 K6))
      have hgo : ∀ T : Option Rs → Prop, (∀ l2, lk l2 0 = some (.ref 218) → T (Rn (X (d + 4)) 12 (some .boolean) false 2 cX12_qGoesOn (77, l2, [], (n, z, hp H (st (st M4 218 94 ((W0.length + V'.length : Nat) : Int)) 218 95 ((op : Int) - 1)))))) → T (Rn (X (d + 4)) 12 (some .boolean) false 2 cX12_qGoesOn (0, l1, [], (n, z, hp H M1))) := by
        intro T hT
        have hT' := hT l1 q0
        rw [Rm_aload_n (k := 0) rfl dX12_qGoesOn_0]
        rcases hA.2 with h | h | h
        · rw [h, Int.cast_ofNat_Int] at ebr
          simp (disch := omega) only [Rm_getfield fl_12_242 dX12_qGoesOn_1, Rn_if_ne (t := 122) rfl dX12_qGoesOn_4, Rm_aload_n (k := 0) rfl dX12_qGoesOn_7, Rm_inV0 (d := dX12_qGoesOn_8) (hy := mo_142) (h13 := rfl) ml_12_254 rfl, Rn_bipush (v := jI (41)) rfl dX12_qGoesOn_11, Rn_icmp_ne (t := 122) rfl dX12_qGoesOn_13, Rm_aload_n (k := 0) rfl dX12_qGoesOn_16, Rm_inV0 (d := dX12_qGoesOn_17) (hy := mo_243) (h13 := rfl) ml_12_631 rfl, Rn_bipush (v := jI (20)) rfl dX12_qGoesOn_20, Rn_icmp_eq (t := 43) rfl dX12_qGoesOn_22, Rm_aload_n (k := 0) rfl dX12_qGoesOn_25, Rm_inV0 (d := dX12_qGoesOn_26) (hy := mo_243) (h13 := rfl) ml_12_631 rfl, Rn_bipush (v := jI (23)) rfl dX12_qGoesOn_29, Rn_icmp_eq (t := 43) rfl dX12_qGoesOn_31, Rm_aload_n (k := 0) rfl dX12_qGoesOn_34, Rm_inV0 (d := dX12_qGoesOn_35) (hy := mo_243) (h13 := rfl) ml_12_631 rfl, Rn_bipush (v := jI (24)) rfl dX12_qGoesOn_38, Rn_icmp_ne (t := 122) rfl dX12_qGoesOn_40, Rm_aload_n (k := 0) rfl dX12_qGoesOn_43, Rn_dup_int dX12_qGoesOn_44, Rn_dup_ref dX12_qGoesOn_44, Rm_getfield fl_12_248 dX12_qGoesOn_45, Rn_iconst (v := jI (1)) rfl dX12_qGoesOn_48, Rn_iadd dX12_qGoesOn_49, Rm_putfieldI (ini := false) fl_12_248 rfl rfl dX12_qGoesOn_50, Rm_aload_n (k := 0) rfl dX12_qGoesOn_53, Rm_inV0 (d := dX12_qGoesOn_54) (hy := mo_244) (h13 := rfl) ml_12_634 rfl, Rm_aload_n (k := 0) rfl dX12_qGoesOn_57, Rn_dup_int dX12_qGoesOn_58, Rn_dup_ref dX12_qGoesOn_58, Rm_getfield fl_12_344 dX12_qGoesOn_59, Rn_iconst (v := jI (1)) rfl dX12_qGoesOn_62, Rn_isub dX12_qGoesOn_63, Rm_putfieldI (ini := false) fl_12_344 rfl rfl dX12_qGoesOn_64, Rm_aload_n (k := 0) rfl dX12_qGoesOn_67, Rn_dup_int dX12_qGoesOn_68, Rn_dup_ref dX12_qGoesOn_68, Rm_getfield fl_12_347 dX12_qGoesOn_69, Rn_iconst (v := jI (1)) rfl dX12_qGoesOn_72, Rn_isub dX12_qGoesOn_73, Rm_putfieldI (ini := false) fl_12_347 rfl rfl dX12_qGoesOn_74, gs12_2 k218, gs12_5 k218, gs12_94 k218, gs12_95 k218, io12 k218, ps12_2 k218, ps12_94 k218, ps12_95 k218, io12 k218, q0, y5, e2, p41, ebr, f3, e4, y94, e94, y495, qI_s, qJ_s, qR_s, qV_s, qX_s, qN_s, qW_s, qF_s, qC_s, Option.bind_some, Option.bind_none, Nat.reduceAdd, Nat.reduceBEq, Nat.reduceEqDiff, lk_nil, lk_cons, lk_pt1, lk_pt2i, isJ_i, isJ_r, isJ_l, gI_i, gJ_i, gR_i, Bool.false_eq_true, if_true, if_false, ite_true, ite_false, ↓reduceIte, len4_0, len4_1, len4_2, len4_3, len4_4, Option.toList_some, Option.toList_none, List.cons_append, List.nil_append, va_rf_s, up_hp, ofI_j, jI_add, jI_sub, jI_mul, jI_neg, jL_add, jL_sub, jL_mul, jI_jL, jL_jI, nar_i, nar_zj, lt_t, lt_f, le_t, le_f, eq_t, eq_f, ez_t, ez_f, lz_t, lz_f, gz_t, gz_f, nz_t, nz_f, pz_t, pz_f, lgc_gt, lgc_lt, lgc_ge, lgc_le, lgc_eq, Lt_t, Lt_f, Le_t, Le_f, Eq_t, Eq_f, dv_j, not_true_eq_false, not_false_eq_true, Int.reduceEq, Int.reduceAdd, Int.reduceSub, Int.reduceMul, Int.reduceNeg, Ez_t, Ez_f, dv_L, false_and, true_and, and_true, and_false]
          exact hT'
        · rw [h, Int.cast_ofNat_Int] at ebr
          simp (disch := omega) only [Rm_getfield fl_12_242 dX12_qGoesOn_1, Rn_if_ne (t := 122) rfl dX12_qGoesOn_4, Rm_aload_n (k := 0) rfl dX12_qGoesOn_7, Rm_inV0 (d := dX12_qGoesOn_8) (hy := mo_142) (h13 := rfl) ml_12_254 rfl, Rn_bipush (v := jI (41)) rfl dX12_qGoesOn_11, Rn_icmp_ne (t := 122) rfl dX12_qGoesOn_13, Rm_aload_n (k := 0) rfl dX12_qGoesOn_16, Rm_inV0 (d := dX12_qGoesOn_17) (hy := mo_243) (h13 := rfl) ml_12_631 rfl, Rn_bipush (v := jI (20)) rfl dX12_qGoesOn_20, Rn_icmp_eq (t := 43) rfl dX12_qGoesOn_22, Rm_aload_n (k := 0) rfl dX12_qGoesOn_25, Rm_inV0 (d := dX12_qGoesOn_26) (hy := mo_243) (h13 := rfl) ml_12_631 rfl, Rn_bipush (v := jI (23)) rfl dX12_qGoesOn_29, Rn_icmp_eq (t := 43) rfl dX12_qGoesOn_31, Rm_aload_n (k := 0) rfl dX12_qGoesOn_34, Rm_inV0 (d := dX12_qGoesOn_35) (hy := mo_243) (h13 := rfl) ml_12_631 rfl, Rn_bipush (v := jI (24)) rfl dX12_qGoesOn_38, Rn_icmp_ne (t := 122) rfl dX12_qGoesOn_40, Rm_aload_n (k := 0) rfl dX12_qGoesOn_43, Rn_dup_int dX12_qGoesOn_44, Rn_dup_ref dX12_qGoesOn_44, Rm_getfield fl_12_248 dX12_qGoesOn_45, Rn_iconst (v := jI (1)) rfl dX12_qGoesOn_48, Rn_iadd dX12_qGoesOn_49, Rm_putfieldI (ini := false) fl_12_248 rfl rfl dX12_qGoesOn_50, Rm_aload_n (k := 0) rfl dX12_qGoesOn_53, Rm_inV0 (d := dX12_qGoesOn_54) (hy := mo_244) (h13 := rfl) ml_12_634 rfl, Rm_aload_n (k := 0) rfl dX12_qGoesOn_57, Rn_dup_int dX12_qGoesOn_58, Rn_dup_ref dX12_qGoesOn_58, Rm_getfield fl_12_344 dX12_qGoesOn_59, Rn_iconst (v := jI (1)) rfl dX12_qGoesOn_62, Rn_isub dX12_qGoesOn_63, Rm_putfieldI (ini := false) fl_12_344 rfl rfl dX12_qGoesOn_64, Rm_aload_n (k := 0) rfl dX12_qGoesOn_67, Rn_dup_int dX12_qGoesOn_68, Rn_dup_ref dX12_qGoesOn_68, Rm_getfield fl_12_347 dX12_qGoesOn_69, Rn_iconst (v := jI (1)) rfl dX12_qGoesOn_72, Rn_isub dX12_qGoesOn_73, Rm_putfieldI (ini := false) fl_12_347 rfl rfl dX12_qGoesOn_74, gs12_2 k218, gs12_5 k218, gs12_94 k218, gs12_95 k218, io12 k218, ps12_2 k218, ps12_94 k218, ps12_95 k218, io12 k218, q0, y5, e2, p41, ebr, f3, e4, y94, e94, y495, qI_s, qJ_s, qR_s, qV_s, qX_s, qN_s, qW_s, qF_s, qC_s, Option.bind_some, Option.bind_none, Nat.reduceAdd, Nat.reduceBEq, Nat.reduceEqDiff, lk_nil, lk_cons, lk_pt1, lk_pt2i, isJ_i, isJ_r, isJ_l, gI_i, gJ_i, gR_i, Bool.false_eq_true, if_true, if_false, ite_true, ite_false, ↓reduceIte, len4_0, len4_1, len4_2, len4_3, len4_4, Option.toList_some, Option.toList_none, List.cons_append, List.nil_append, va_rf_s, up_hp, ofI_j, jI_add, jI_sub, jI_mul, jI_neg, jL_add, jL_sub, jL_mul, jI_jL, jL_jI, nar_i, nar_zj, lt_t, lt_f, le_t, le_f, eq_t, eq_f, ez_t, ez_f, lz_t, lz_f, gz_t, gz_f, nz_t, nz_f, pz_t, pz_f, lgc_gt, lgc_lt, lgc_ge, lgc_le, lgc_eq, Lt_t, Lt_f, Le_t, Le_f, Eq_t, Eq_f, dv_j, not_true_eq_false, not_false_eq_true, Int.reduceEq, Int.reduceAdd, Int.reduceSub, Int.reduceMul, Int.reduceNeg, Ez_t, Ez_f, dv_L, false_and, true_and, and_true, and_false]
          exact hT'
        · rw [h, Int.cast_ofNat_Int] at ebr
          simp (disch := omega) only [Rm_getfield fl_12_242 dX12_qGoesOn_1, Rn_if_ne (t := 122) rfl dX12_qGoesOn_4, Rm_aload_n (k := 0) rfl dX12_qGoesOn_7, Rm_inV0 (d := dX12_qGoesOn_8) (hy := mo_142) (h13 := rfl) ml_12_254 rfl, Rn_bipush (v := jI (41)) rfl dX12_qGoesOn_11, Rn_icmp_ne (t := 122) rfl dX12_qGoesOn_13, Rm_aload_n (k := 0) rfl dX12_qGoesOn_16, Rm_inV0 (d := dX12_qGoesOn_17) (hy := mo_243) (h13 := rfl) ml_12_631 rfl, Rn_bipush (v := jI (20)) rfl dX12_qGoesOn_20, Rn_icmp_eq (t := 43) rfl dX12_qGoesOn_22, Rm_aload_n (k := 0) rfl dX12_qGoesOn_25, Rm_inV0 (d := dX12_qGoesOn_26) (hy := mo_243) (h13 := rfl) ml_12_631 rfl, Rn_bipush (v := jI (23)) rfl dX12_qGoesOn_29, Rn_icmp_eq (t := 43) rfl dX12_qGoesOn_31, Rm_aload_n (k := 0) rfl dX12_qGoesOn_34, Rm_inV0 (d := dX12_qGoesOn_35) (hy := mo_243) (h13 := rfl) ml_12_631 rfl, Rn_bipush (v := jI (24)) rfl dX12_qGoesOn_38, Rn_icmp_ne (t := 122) rfl dX12_qGoesOn_40, Rm_aload_n (k := 0) rfl dX12_qGoesOn_43, Rn_dup_int dX12_qGoesOn_44, Rn_dup_ref dX12_qGoesOn_44, Rm_getfield fl_12_248 dX12_qGoesOn_45, Rn_iconst (v := jI (1)) rfl dX12_qGoesOn_48, Rn_iadd dX12_qGoesOn_49, Rm_putfieldI (ini := false) fl_12_248 rfl rfl dX12_qGoesOn_50, Rm_aload_n (k := 0) rfl dX12_qGoesOn_53, Rm_inV0 (d := dX12_qGoesOn_54) (hy := mo_244) (h13 := rfl) ml_12_634 rfl, Rm_aload_n (k := 0) rfl dX12_qGoesOn_57, Rn_dup_int dX12_qGoesOn_58, Rn_dup_ref dX12_qGoesOn_58, Rm_getfield fl_12_344 dX12_qGoesOn_59, Rn_iconst (v := jI (1)) rfl dX12_qGoesOn_62, Rn_isub dX12_qGoesOn_63, Rm_putfieldI (ini := false) fl_12_344 rfl rfl dX12_qGoesOn_64, Rm_aload_n (k := 0) rfl dX12_qGoesOn_67, Rn_dup_int dX12_qGoesOn_68, Rn_dup_ref dX12_qGoesOn_68, Rm_getfield fl_12_347 dX12_qGoesOn_69, Rn_iconst (v := jI (1)) rfl dX12_qGoesOn_72, Rn_isub dX12_qGoesOn_73, Rm_putfieldI (ini := false) fl_12_347 rfl rfl dX12_qGoesOn_74, gs12_2 k218, gs12_5 k218, gs12_94 k218, gs12_95 k218, io12 k218, ps12_2 k218, ps12_94 k218, ps12_95 k218, io12 k218, q0, y5, e2, p41, ebr, f3, e4, y94, e94, y495, qI_s, qJ_s, qR_s, qV_s, qX_s, qN_s, qW_s, qF_s, qC_s, Option.bind_some, Option.bind_none, Nat.reduceAdd, Nat.reduceBEq, Nat.reduceEqDiff, lk_nil, lk_cons, lk_pt1, lk_pt2i, isJ_i, isJ_r, isJ_l, gI_i, gJ_i, gR_i, Bool.false_eq_true, if_true, if_false, ite_true, ite_false, ↓reduceIte, len4_0, len4_1, len4_2, len4_3, len4_4, Option.toList_some, Option.toList_none, List.cons_append, List.nil_append, va_rf_s, up_hp, ofI_j, jI_add, jI_sub, jI_mul, jI_neg, jL_add, jL_sub, jL_mul, jI_jL, jL_jI, nar_i, nar_zj, lt_t, lt_f, le_t, le_f, eq_t, eq_f, ez_t, ez_f, lz_t, lz_f, gz_t, gz_f, nz_t, nz_f, pz_t, pz_f, lgc_gt, lgc_lt, lgc_ge, lgc_le, lgc_eq, Lt_t, Lt_f, Le_t, Le_f, Eq_t, Eq_f, dv_j, not_true_eq_false, not_false_eq_true, Int.reduceEq, Int.reduceAdd, Int.reduceSub, Int.reduceMul, Int.reduceNeg, Ez_t, Ez_f, dv_L, false_and, true_and, and_true, and_false]
          exact hT'
      refine hgo G (fun l2 b0 => ?_)
      clear hgo
      generalize st (st M4 218 94 ((W0.length + V'.length : Nat) : Int)) 218 95 ((op : Int) - 1) = M6 at *
      have hV' : ∀ x ∈ V', x < 1000 := fun x hx => hV x ((List.dropWhile_sublist (fun x => !isBr x)).subset (by rw [hdw]; exact List.mem_cons_of_mem _ hx))
      have tail : ∀ (E : List Nat) (M7 : Me) (l3 : Lo), E.length ≤ 1 → mst g k wh (2, e, nb, op, V, C) = (1, tkQ g k e, nxB g k e nb, op - 1, V', C ++ D ++ E) → QS (W0 ++ V'.reverse) (C ++ D ++ E) (op - 1) W0.length wh M7 → PQ g k (tkQ g k e) (nxB g k e nb) M7 → WK M7 → KB M M7 → lk l3 0 = some (.ref 218) → G (Rn (X (d + 4)) 12 (some .boolean) false 2 cX12_qGoesOn (115, l3, [], (n, z, hp H M7))) := by
        intro E M7 l3 hE hms' hQ7 hP7 hWK7 KB7 b0
        have hci7 : CI k W0.length (1, tkQ g k e, nxB g k e nb, op - 1, V', C ++ D ++ E) := by
          refine ⟨hn.2, by show op - 1 ≤ 6; omega, by show cntO V' ≤ op - 1; omega, hV', ?_⟩
          show W0.length + V'.length + (C ++ D ++ E).length ≤ tkQ g k e
          simp only [List.length_append]
          omega
        have ct := cntO_of V'
        obtain ⟨M8, e8, hQ8, K8, f8⟩ := m_qEndsPart (n := n) (z := z) (H := H) (by simp only [List.length_append, List.length_reverse]; omega) hV' hQ7 hP7.2.2.2.2.1 (by omega) (d + 1)
        have hi := fun l5 b0 => ih (k - tkQ g k e) (by omega) _ _ _ _ _ M8 l5 rfl (CI_ends hci7) ⟨PQ_B hP7 (K8.1 219 (by omega)) (fun i hi => f8 i (by omega)), hQ8, WK_B hWK7 K8⟩ (KB_trans KB7 K8) (by
          obtain ⟨m, h⟩ := hst _ hms'
          exact ⟨(m + 1) + ((V'.takeWhile fun x => decide (60 ≤ x)).length + 1), by rw [mit_add, h]; exact mit_ends⟩) b0
        rw [Rm_aload_n (k := 0) rfl dX12_qGoesOn_115]
        simp (disch := omega) only [Rm_inV0 (d := dX12_qGoesOn_116) (hy := mo_248) (h13 := rfl) ml_12_628 rfl, Rn_goto (t := 0) rfl dX12_qGoesOn_119, io12 k218, io12 k218, b0, e8, qI_s, qJ_s, qR_s, qV_s, qX_s, qN_s, qW_s, qF_s, qC_s, Option.bind_some, Option.bind_none, Nat.reduceAdd, Nat.reduceBEq, Nat.reduceEqDiff, lk_nil, lk_cons, lk_pt1, lk_pt2i, isJ_i, isJ_r, isJ_l, gI_i, gJ_i, gR_i, Bool.false_eq_true, if_true, if_false, ite_true, ite_false, ↓reduceIte, len4_0, len4_1, len4_2, len4_3, len4_4, Option.toList_some, Option.toList_none, List.cons_append, List.nil_append, va_rf_s, up_hp, ofI_j, jI_add, jI_sub, jI_mul, jI_neg, jL_add, jL_sub, jL_mul, jI_jL, jL_jI, nar_i, nar_zj, lt_t, lt_f, le_t, le_f, eq_t, eq_f, ez_t, ez_f, lz_t, lz_f, gz_t, gz_f, nz_t, nz_f, pz_t, pz_f, lgc_gt, lgc_lt, lgc_ge, lgc_le, lgc_eq, Lt_t, Lt_f, Le_t, Le_f, Eq_t, Eq_f, dv_j, not_true_eq_false, not_false_eq_true, Int.reduceEq, Int.reduceAdd, Int.reduceSub, Int.reduceMul, Int.reduceNeg, Ez_t, Ez_f, dv_L, false_and, true_and, and_true, and_false]
        exact hi _ b0
      rw [Rm_aload_n (k := 0) rfl dX12_qGoesOn_77]
      by_cases h20 : brk V = 20
      · rw [if_pos h20] at hms
        rw [h20, Int.cast_ofNat_Int] at y6w
        have ht := fun l3 b0 => tail [] M6 l3 (by simp) hms (by simpa using hQ6) hP6 hWK6 KB6 b0
        simp (disch := omega) only [Rm_getfield fl_12_230 dX12_qGoesOn_78, Rm_aload_n (k := 0) rfl dX12_qGoesOn_81, Rm_getfield fl_12_344 dX12_qGoesOn_82, Rm_iaload dX12_qGoesOn_85, Rn_bipush (v := jI (20)) rfl dX12_qGoesOn_86, Rn_icmp_eq (t := 115) rfl dX12_qGoesOn_88, gs12_93 k218, rdM k289 l289, wrM k289 l289, alM k289 l289, gs12_94 k218, b0, y694, y6w, qI_s, qJ_s, qR_s, qV_s, qX_s, qN_s, qW_s, qF_s, qC_s, Option.bind_some, Option.bind_none, Nat.reduceAdd, Nat.reduceBEq, Nat.reduceEqDiff, lk_nil, lk_cons, lk_pt1, lk_pt2i, isJ_i, isJ_r, isJ_l, gI_i, gJ_i, gR_i, Bool.false_eq_true, if_true, if_false, ite_true, ite_false, ↓reduceIte, len4_0, len4_1, len4_2, len4_3, len4_4, Option.toList_some, Option.toList_none, List.cons_append, List.nil_append, va_rf_s, up_hp, ofI_j, jI_add, jI_sub, jI_mul, jI_neg, jL_add, jL_sub, jL_mul, jI_jL, jL_jI, nar_i, nar_zj, lt_t, lt_f, le_t, le_f, eq_t, eq_f, ez_t, ez_f, lz_t, lz_f, gz_t, gz_f, nz_t, nz_f, pz_t, pz_f, lgc_gt, lgc_lt, lgc_ge, lgc_le, lgc_eq, Lt_t, Lt_f, Le_t, Le_f, Eq_t, Eq_f, dv_j, not_true_eq_false, not_false_eq_true, Int.reduceEq, Int.reduceAdd, Int.reduceSub, Int.reduceMul, Int.reduceNeg, Ez_t, Ez_f, dv_L, false_and, true_and, and_true, and_false]
        exact ht _ b0
      · by_cases h23 : brk V = 23
        · rw [if_neg h20, if_pos h23] at hms
          rw [h23, Int.cast_ofNat_Int] at y6w
          obtain ⟨M7, e7, hQ7, K7, f7⟩ := m_qCode (n := n) (z := z) (H := H) hQ6 (by simp only [List.length_append]; omega) 5 (d + 3)
          rw [Int.cast_ofNat_Int] at e7
          have ht := fun l3 b0 => tail [5] M7 l3 (by simp) hms hQ7 (PQ_B hP6 (K7.1 219 (by omega)) (fun i hi => f7 i (by omega))) (WK_B hWK6 K7) (KB_trans KB6 K7) b0
          simp (disch := omega) only [Rm_getfield fl_12_230 dX12_qGoesOn_78, Rm_aload_n (k := 0) rfl dX12_qGoesOn_81, Rm_getfield fl_12_344 dX12_qGoesOn_82, Rm_iaload dX12_qGoesOn_85, Rn_bipush (v := jI (20)) rfl dX12_qGoesOn_86, Rn_icmp_eq (t := 115) rfl dX12_qGoesOn_88, Rm_aload_n (k := 0) rfl dX12_qGoesOn_91, Rm_aload_n (k := 0) rfl dX12_qGoesOn_92, Rm_getfield fl_12_230 dX12_qGoesOn_93, Rm_aload_n (k := 0) rfl dX12_qGoesOn_96, Rm_getfield fl_12_344 dX12_qGoesOn_97, Rm_iaload dX12_qGoesOn_100, Rn_bipush (v := jI (23)) rfl dX12_qGoesOn_101, Rn_icmp_ne (t := 110) rfl dX12_qGoesOn_103, Rn_iconst (v := jI (5)) rfl dX12_qGoesOn_106, Rn_goto (t := 112) rfl dX12_qGoesOn_107, Rn_bipush (v := jI (6)) rfl dX12_qGoesOn_110, Rm_inV1 (d := dX12_qGoesOn_112) (hy := mo_238) (h13 := rfl) ml_12_604 rfl, gs12_93 k218, rdM k289 l289, wrM k289 l289, alM k289 l289, gs12_94 k218, io12 k218, io12 k218, b0, y694, y6w, e7, qI_s, qJ_s, qR_s, qV_s, qX_s, qN_s, qW_s, qF_s, qC_s, Option.bind_some, Option.bind_none, Nat.reduceAdd, Nat.reduceBEq, Nat.reduceEqDiff, lk_nil, lk_cons, lk_pt1, lk_pt2i, isJ_i, isJ_r, isJ_l, gI_i, gJ_i, gR_i, Bool.false_eq_true, if_true, if_false, ite_true, ite_false, ↓reduceIte, len4_0, len4_1, len4_2, len4_3, len4_4, Option.toList_some, Option.toList_none, List.cons_append, List.nil_append, va_rf_s, up_hp, ofI_j, jI_add, jI_sub, jI_mul, jI_neg, jL_add, jL_sub, jL_mul, jI_jL, jL_jI, nar_i, nar_zj, lt_t, lt_f, le_t, le_f, eq_t, eq_f, ez_t, ez_f, lz_t, lz_f, gz_t, gz_f, nz_t, nz_f, pz_t, pz_f, lgc_gt, lgc_lt, lgc_ge, lgc_le, lgc_eq, Lt_t, Lt_f, Le_t, Le_f, Eq_t, Eq_f, dv_j, not_true_eq_false, not_false_eq_true, Int.reduceEq, Int.reduceAdd, Int.reduceSub, Int.reduceMul, Int.reduceNeg, Ez_t, Ez_f, dv_L, false_and, true_and, and_true, and_false]
          exact ht _ b0
        · have h24 : brk V = 24 := by omega
          rw [if_neg h20, if_neg h23] at hms
          rw [h24, Int.cast_ofNat_Int] at y6w
          obtain ⟨M7, e7, hQ7, K7, f7⟩ := m_qCode (n := n) (z := z) (H := H) hQ6 (by simp only [List.length_append]; omega) 6 (d + 3)
          rw [Int.cast_ofNat_Int] at e7
          have ht := fun l3 b0 => tail [6] M7 l3 (by simp) hms hQ7 (PQ_B hP6 (K7.1 219 (by omega)) (fun i hi => f7 i (by omega))) (WK_B hWK6 K7) (KB_trans KB6 K7) b0
          simp (disch := omega) only [Rm_getfield fl_12_230 dX12_qGoesOn_78, Rm_aload_n (k := 0) rfl dX12_qGoesOn_81, Rm_getfield fl_12_344 dX12_qGoesOn_82, Rm_iaload dX12_qGoesOn_85, Rn_bipush (v := jI (20)) rfl dX12_qGoesOn_86, Rn_icmp_eq (t := 115) rfl dX12_qGoesOn_88, Rm_aload_n (k := 0) rfl dX12_qGoesOn_91, Rm_aload_n (k := 0) rfl dX12_qGoesOn_92, Rm_getfield fl_12_230 dX12_qGoesOn_93, Rm_aload_n (k := 0) rfl dX12_qGoesOn_96, Rm_getfield fl_12_344 dX12_qGoesOn_97, Rm_iaload dX12_qGoesOn_100, Rn_bipush (v := jI (23)) rfl dX12_qGoesOn_101, Rn_icmp_ne (t := 110) rfl dX12_qGoesOn_103, Rn_iconst (v := jI (5)) rfl dX12_qGoesOn_106, Rn_goto (t := 112) rfl dX12_qGoesOn_107, Rn_bipush (v := jI (6)) rfl dX12_qGoesOn_110, Rm_inV1 (d := dX12_qGoesOn_112) (hy := mo_238) (h13 := rfl) ml_12_604 rfl, gs12_93 k218, rdM k289 l289, wrM k289 l289, alM k289 l289, gs12_94 k218, io12 k218, io12 k218, b0, y694, y6w, e7, qI_s, qJ_s, qR_s, qV_s, qX_s, qN_s, qW_s, qF_s, qC_s, Option.bind_some, Option.bind_none, Nat.reduceAdd, Nat.reduceBEq, Nat.reduceEqDiff, lk_nil, lk_cons, lk_pt1, lk_pt2i, isJ_i, isJ_r, isJ_l, gI_i, gJ_i, gR_i, Bool.false_eq_true, if_true, if_false, ite_true, ite_false, ↓reduceIte, len4_0, len4_1, len4_2, len4_3, len4_4, Option.toList_some, Option.toList_none, List.cons_append, List.nil_append, va_rf_s, up_hp, ofI_j, jI_add, jI_sub, jI_mul, jI_neg, jL_add, jL_sub, jL_mul, jI_jL, jL_jI, nar_i, nar_zj, lt_t, lt_f, le_t, le_f, eq_t, eq_f, ez_t, ez_f, lz_t, lz_f, gz_t, gz_f, nz_t, nz_f, pz_t, pz_f, lgc_gt, lgc_lt, lgc_ge, lgc_le, lgc_eq, Lt_t, Lt_f, Le_t, Le_f, Eq_t, Eq_f, dv_j, not_true_eq_false, not_false_eq_true, Int.reduceEq, Int.reduceAdd, Int.reduceSub, Int.reduceMul, Int.reduceNeg, Ez_t, Ez_f, dv_L, false_and, true_and, and_true, and_false]
          exact ht _ b0
    · rw [if_neg hA] at hms
      have sk := skp_prop (g := g) he
      have hgo : ∀ T : Option Rs → Prop, T (Rn (X (d + 4)) 12 (some .boolean) false 2 cX12_qGoesOn (122, l1, [], (n, z, hp H M2))) → T (Rn (X (d + 4)) 12 (some .boolean) false 2 cX12_qGoesOn (0, l1, [], (n, z, hp H M1))) := by
        intro T hT
        rw [Rm_aload_n (k := 0) rfl dX12_qGoesOn_0]
        by_cases p41 : pkV g k e = 41
        · have hs := i41.mp p41
          have hbv : ¬ (if brk V = 0 then (-1 : Int) else brk V) = 20 ∧ ¬ (if brk V = 0 then (-1 : Int) else brk V) = 23 ∧ ¬ (if brk V = 0 then (-1 : Int) else brk V) = 24 ∧ -1 ≤ (if brk V = 0 then (-1 : Int) else brk V) ∧ (if brk V = 0 then (-1 : Int) else brk V) < 1000 := by
            have hn' : ¬ (brk V = 20 ∨ brk V = 23 ∨ brk V = 24) := fun h => hA ⟨hs, h⟩
            split <;> omega
          obtain ⟨v1, v2, v3, v4, v5⟩ := hbv
          generalize (if brk V = 0 then (-1 : Int) else brk V) = bv at *
          simp (disch := omega) only [Rm_getfield fl_12_242 dX12_qGoesOn_1, Rn_if_ne (t := 122) rfl dX12_qGoesOn_4, Rm_aload_n (k := 0) rfl dX12_qGoesOn_7, Rm_inV0 (d := dX12_qGoesOn_8) (hy := mo_142) (h13 := rfl) ml_12_254 rfl, Rn_bipush (v := jI (41)) rfl dX12_qGoesOn_11, Rn_icmp_ne (t := 122) rfl dX12_qGoesOn_13, Rm_aload_n (k := 0) rfl dX12_qGoesOn_16, Rm_inV0 (d := dX12_qGoesOn_17) (hy := mo_243) (h13 := rfl) ml_12_631 rfl, Rn_bipush (v := jI (20)) rfl dX12_qGoesOn_20, Rn_icmp_eq (t := 43) rfl dX12_qGoesOn_22, Rm_aload_n (k := 0) rfl dX12_qGoesOn_25, Rm_inV0 (d := dX12_qGoesOn_26) (hy := mo_243) (h13 := rfl) ml_12_631 rfl, Rn_bipush (v := jI (23)) rfl dX12_qGoesOn_29, Rn_icmp_eq (t := 43) rfl dX12_qGoesOn_31, Rm_aload_n (k := 0) rfl dX12_qGoesOn_34, Rm_inV0 (d := dX12_qGoesOn_35) (hy := mo_243) (h13 := rfl) ml_12_631 rfl, Rn_bipush (v := jI (24)) rfl dX12_qGoesOn_38, Rn_icmp_ne (t := 122) rfl dX12_qGoesOn_40, gs12_5 k218, io12 k218, io12 k218, q0, y5, e2, p41, ebr, qI_s, qJ_s, qR_s, qV_s, qX_s, qN_s, qW_s, qF_s, qC_s, Option.bind_some, Option.bind_none, Nat.reduceAdd, Nat.reduceBEq, Nat.reduceEqDiff, lk_nil, lk_cons, lk_pt1, lk_pt2i, isJ_i, isJ_r, isJ_l, gI_i, gJ_i, gR_i, Bool.false_eq_true, if_true, if_false, ite_true, ite_false, ↓reduceIte, len4_0, len4_1, len4_2, len4_3, len4_4, Option.toList_some, Option.toList_none, List.cons_append, List.nil_append, va_rf_s, up_hp, ofI_j, jI_add, jI_sub, jI_mul, jI_neg, jL_add, jL_sub, jL_mul, jI_jL, jL_jI, nar_i, nar_zj, lt_t, lt_f, le_t, le_f, eq_t, eq_f, ez_t, ez_f, lz_t, lz_f, gz_t, gz_f, nz_t, nz_f, pz_t, pz_f, lgc_gt, lgc_lt, lgc_ge, lgc_le, lgc_eq, Lt_t, Lt_f, Le_t, Le_f, Eq_t, Eq_f, dv_j, not_true_eq_false, not_false_eq_true, Int.reduceEq, Int.reduceAdd, Int.reduceSub, Int.reduceMul, Int.reduceNeg, Ez_t, Ez_f, dv_L, false_and, true_and, and_true, and_false]
          exact hT
        · simp (disch := omega) only [Rm_getfield fl_12_242 dX12_qGoesOn_1, Rn_if_ne (t := 122) rfl dX12_qGoesOn_4, Rm_aload_n (k := 0) rfl dX12_qGoesOn_7, Rm_inV0 (d := dX12_qGoesOn_8) (hy := mo_142) (h13 := rfl) ml_12_254 rfl, Rn_bipush (v := jI (41)) rfl dX12_qGoesOn_11, Rn_icmp_ne (t := 122) rfl dX12_qGoesOn_13, Rm_aload_n (k := 0) rfl dX12_qGoesOn_16, Rm_inV0 (d := dX12_qGoesOn_17) (hy := mo_243) (h13 := rfl) ml_12_631 rfl, Rn_bipush (v := jI (20)) rfl dX12_qGoesOn_20, Rn_icmp_eq (t := 43) rfl dX12_qGoesOn_22, Rm_aload_n (k := 0) rfl dX12_qGoesOn_25, Rm_inV0 (d := dX12_qGoesOn_26) (hy := mo_243) (h13 := rfl) ml_12_631 rfl, Rn_bipush (v := jI (23)) rfl dX12_qGoesOn_29, Rn_icmp_eq (t := 43) rfl dX12_qGoesOn_31, Rm_aload_n (k := 0) rfl dX12_qGoesOn_34, Rm_inV0 (d := dX12_qGoesOn_35) (hy := mo_243) (h13 := rfl) ml_12_631 rfl, Rn_bipush (v := jI (24)) rfl dX12_qGoesOn_38, Rn_icmp_ne (t := 122) rfl dX12_qGoesOn_40, gs12_5 k218, io12 k218, io12 k218, q0, y5, e2, qI_s, qJ_s, qR_s, qV_s, qX_s, qN_s, qW_s, qF_s, qC_s, Option.bind_some, Option.bind_none, Nat.reduceAdd, Nat.reduceBEq, Nat.reduceEqDiff, lk_nil, lk_cons, lk_pt1, lk_pt2i, isJ_i, isJ_r, isJ_l, gI_i, gJ_i, gR_i, Bool.false_eq_true, if_true, if_false, ite_true, ite_false, ↓reduceIte, len4_0, len4_1, len4_2, len4_3, len4_4, Option.toList_some, Option.toList_none, List.cons_append, List.nil_append, va_rf_s, up_hp, ofI_j, jI_add, jI_sub, jI_mul, jI_neg, jL_add, jL_sub, jL_mul, jI_jL, jL_jI, nar_i, nar_zj, lt_t, lt_f, le_t, le_f, eq_t, eq_f, ez_t, ez_f, lz_t, lz_f, gz_t, gz_f, nz_t, nz_f, pz_t, pz_f, lgc_gt, lgc_lt, lgc_ge, lgc_le, lgc_eq, Lt_t, Lt_f, Le_t, Le_f, Eq_t, Eq_f, dv_j, not_true_eq_false, not_false_eq_true, Int.reduceEq, Int.reduceAdd, Int.reduceSub, Int.reduceMul, Int.reduceNeg, Ez_t, Ez_f, dv_L, false_and, true_and, and_true, and_false]
          exact hT
      refine hgo G ?_
      clear hgo
      have mul : ∀ (c : Int) (M3 : Me) (l2 : Lo), (c = 42 ∨ c = 47) → isSg g k e c → PQ g k (tkQ g k e) (nxB g k e nb) M3 → M3 218 2 = skp g k e + 1 → KT M2 M3 → lk l2 0 = some (.ref 218) → G (Rn (X (d + 4)) 12 (some .boolean) false 2 cX12_qGoesOn (140, l2, [], (n, z, hp H M3))) := by
        intro c M3 l2 hc42 hs hP3 y2 K3 b0
        have hn := nx_step (g := g) he (by have := Sg_K hs; omega)
        have hgc := Sg_g hs
        have hPk : skp g k e < k := Classical.not_not.mp (fun q => by have := tkK_0.mpr q; have := hs.1; omega)
        rw [if_pos (by rcases hc42 with h | h <;> (rw [h] at hs; simp [hs]))] at hms
        have yv : vaF g k e = c := hs.2
        have yg : M3 219 = g := hP3.1
        have gen : ∀ s : Nat, s = (if vaF g k e = 42 then 3 else 4) → ∀ l3, lk l3 0 = some (.ref 218) → lk l3 1 = some (.int (jI (s : Int))) → G (Rn (X (d + 4)) 12 (some .boolean) false 2 cX12_qGoesOn (162, l3, [], (n, z, hp H M3))) := by
          intro s hs' l3 b0 b1
          rw [← hs'] at hms
          have hs20 : s < 20 := by rw [hs']; split <;> omega
          refine m_dropMu (s := s) hW0 G (d + 2) V C op M3 l3 hV (by omega) (QS_T hQ2 K3) b0 b1 (fun M' h => ?_)
          obtain ⟨h1, h2, h3⟩ := h
          exact hG 1 M' ⟨KB_trans KB2 (KB_trans (KB_T K3) h2), Or.inl ⟨rfl, _, hst _ hms, rfl, CI_sign isMu (fun x hx => by unfold isMu at hx; rw [decide_eq_true_iff] at hx; omega) hci hn.1 hn.2 hs20, PQ_B hP3 (h2.1 219 (by omega)) (fun i hi => h3 i (by omega)), h1, WK_B (WK_T hWK2 K3) h2⟩⟩
        rw [Rm_aload_n (k := 0) rfl dX12_qGoesOn_140]
        rcases hc42 with h | h
        · have g1 := gen 3 (by rw [yv, h]; rfl)
          rw [Int.cast_ofNat_Int] at g1
          rw [h] at hgc
          simp (disch := omega) only [Rm_getfield fl_12_7 dX12_qGoesOn_141, Rm_aload_n (k := 0) rfl dX12_qGoesOn_144, Rm_getfield fl_12_248 dX12_qGoesOn_145, Rn_iconst (v := jI (1)) rfl dX12_qGoesOn_148, Rn_isub dX12_qGoesOn_149, Rm_iaload dX12_qGoesOn_150, Rn_bipush (v := jI (42)) rfl dX12_qGoesOn_151, Rn_icmp_ne (t := 160) rfl dX12_qGoesOn_153, Rn_iconst (v := jI (3)) rfl dX12_qGoesOn_156, Rn_goto (t := 161) rfl dX12_qGoesOn_157, Rn_iconst (v := jI (4)) rfl dX12_qGoesOn_160, Rn_istore_n (k := 1) (nL := 2) rfl rfl dX12_qGoesOn_161, gs12_0 k218, rdM k219 l219, wrM k219 l219, alM k219 l219, gs12_2 k218, b0, y2, yg, show (skp g k e : Int) + 1 - 1 = skp g k e by omega, hgc, qI_s, qJ_s, qR_s, qV_s, qX_s, qN_s, qW_s, qF_s, qC_s, Option.bind_some, Option.bind_none, Nat.reduceAdd, Nat.reduceBEq, Nat.reduceEqDiff, lk_nil, lk_cons, lk_pt1, lk_pt2i, isJ_i, isJ_r, isJ_l, gI_i, gJ_i, gR_i, Bool.false_eq_true, if_true, if_false, ite_true, ite_false, ↓reduceIte, len4_0, len4_1, len4_2, len4_3, len4_4, Option.toList_some, Option.toList_none, List.cons_append, List.nil_append, va_rf_s, up_hp, ofI_j, jI_add, jI_sub, jI_mul, jI_neg, jL_add, jL_sub, jL_mul, jI_jL, jL_jI, nar_i, nar_zj, lt_t, lt_f, le_t, le_f, eq_t, eq_f, ez_t, ez_f, lz_t, lz_f, gz_t, gz_f, nz_t, nz_f, pz_t, pz_f, lgc_gt, lgc_lt, lgc_ge, lgc_le, lgc_eq, Lt_t, Lt_f, Le_t, Le_f, Eq_t, Eq_f, dv_j, not_true_eq_false, not_false_eq_true, Int.reduceEq, Int.reduceAdd, Int.reduceSub, Int.reduceMul, Int.reduceNeg, Ez_t, Ez_f, dv_L, false_and, true_and, and_true, and_false]
          exact g1 _ (by simp [Option.bind_some, Option.bind_none, Nat.reduceAdd, Nat.reduceBEq, Nat.reduceEqDiff, lk_nil, lk_cons, lk_pt1, lk_pt2, lk_pt2b, isJ_i, isJ_r, isJ_l, gI_i, gJ_i, gR_i, Bool.false_eq_true, if_true, if_false, ite_true, ite_false, reduceIte, len4_0, len4_1, len4_2, len4_3, len4_4, Option.toList_some, Option.toList_none, List.cons_append, List.nil_append, gf_o, isO_o, pf_o, List.length_cons, List.length_nil, List.getElem?_cons_zero, List.getElem?_cons_succ, List.set_cons_zero, List.set_cons_succ, va_rf_s, up_self, rdi_a, rdi_5, rdi_0, rdi_4, wri_a, rdl_a, wrl_a, rdr_a, wrr_a, aln_0, aln_1, aln_3, aln_4, aln_5, ofI_1, ofI_m1, b0]) (by simp [Option.bind_some, Option.bind_none, Nat.reduceAdd, Nat.reduceBEq, Nat.reduceEqDiff, lk_nil, lk_cons, lk_pt1, lk_pt2, lk_pt2b, isJ_i, isJ_r, isJ_l, gI_i, gJ_i, gR_i, Bool.false_eq_true, if_true, if_false, ite_true, ite_false, reduceIte, len4_0, len4_1, len4_2, len4_3, len4_4, Option.toList_some, Option.toList_none, List.cons_append, List.nil_append, gf_o, isO_o, pf_o, List.length_cons, List.length_nil, List.getElem?_cons_zero, List.getElem?_cons_succ, List.set_cons_zero, List.set_cons_succ, va_rf_s, up_self, rdi_a, rdi_5, rdi_0, rdi_4, wri_a, rdl_a, wrl_a, rdr_a, wrr_a, aln_0, aln_1, aln_3, aln_4, aln_5, ofI_1, ofI_m1])
        · have g1 := gen 4 (by rw [yv, h]; rfl)
          rw [Int.cast_ofNat_Int] at g1
          rw [h] at hgc
          simp (disch := omega) only [Rm_getfield fl_12_7 dX12_qGoesOn_141, Rm_aload_n (k := 0) rfl dX12_qGoesOn_144, Rm_getfield fl_12_248 dX12_qGoesOn_145, Rn_iconst (v := jI (1)) rfl dX12_qGoesOn_148, Rn_isub dX12_qGoesOn_149, Rm_iaload dX12_qGoesOn_150, Rn_bipush (v := jI (42)) rfl dX12_qGoesOn_151, Rn_icmp_ne (t := 160) rfl dX12_qGoesOn_153, Rn_iconst (v := jI (3)) rfl dX12_qGoesOn_156, Rn_goto (t := 161) rfl dX12_qGoesOn_157, Rn_iconst (v := jI (4)) rfl dX12_qGoesOn_160, Rn_istore_n (k := 1) (nL := 2) rfl rfl dX12_qGoesOn_161, gs12_0 k218, rdM k219 l219, wrM k219 l219, alM k219 l219, gs12_2 k218, b0, y2, yg, show (skp g k e : Int) + 1 - 1 = skp g k e by omega, hgc, qI_s, qJ_s, qR_s, qV_s, qX_s, qN_s, qW_s, qF_s, qC_s, Option.bind_some, Option.bind_none, Nat.reduceAdd, Nat.reduceBEq, Nat.reduceEqDiff, lk_nil, lk_cons, lk_pt1, lk_pt2i, isJ_i, isJ_r, isJ_l, gI_i, gJ_i, gR_i, Bool.false_eq_true, if_true, if_false, ite_true, ite_false, ↓reduceIte, len4_0, len4_1, len4_2, len4_3, len4_4, Option.toList_some, Option.toList_none, List.cons_append, List.nil_append, va_rf_s, up_hp, ofI_j, jI_add, jI_sub, jI_mul, jI_neg, jL_add, jL_sub, jL_mul, jI_jL, jL_jI, nar_i, nar_zj, lt_t, lt_f, le_t, le_f, eq_t, eq_f, ez_t, ez_f, lz_t, lz_f, gz_t, gz_f, nz_t, nz_f, pz_t, pz_f, lgc_gt, lgc_lt, lgc_ge, lgc_le, lgc_eq, Lt_t, Lt_f, Le_t, Le_f, Eq_t, Eq_f, dv_j, not_true_eq_false, not_false_eq_true, Int.reduceEq, Int.reduceAdd, Int.reduceSub, Int.reduceMul, Int.reduceNeg, Ez_t, Ez_f, dv_L, false_and, true_and, and_true, and_false]
          exact g1 _ (by simp [Option.bind_some, Option.bind_none, Nat.reduceAdd, Nat.reduceBEq, Nat.reduceEqDiff, lk_nil, lk_cons, lk_pt1, lk_pt2, lk_pt2b, isJ_i, isJ_r, isJ_l, gI_i, gJ_i, gR_i, Bool.false_eq_true, if_true, if_false, ite_true, ite_false, reduceIte, len4_0, len4_1, len4_2, len4_3, len4_4, Option.toList_some, Option.toList_none, List.cons_append, List.nil_append, gf_o, isO_o, pf_o, List.length_cons, List.length_nil, List.getElem?_cons_zero, List.getElem?_cons_succ, List.set_cons_zero, List.set_cons_succ, va_rf_s, up_self, rdi_a, rdi_5, rdi_0, rdi_4, wri_a, rdl_a, wrl_a, rdr_a, wrr_a, aln_0, aln_1, aln_3, aln_4, aln_5, ofI_1, ofI_m1, b0]) (by simp [Option.bind_some, Option.bind_none, Nat.reduceAdd, Nat.reduceBEq, Nat.reduceEqDiff, lk_nil, lk_cons, lk_pt1, lk_pt2, lk_pt2b, isJ_i, isJ_r, isJ_l, gI_i, gJ_i, gR_i, Bool.false_eq_true, if_true, if_false, ite_true, ite_false, reduceIte, len4_0, len4_1, len4_2, len4_3, len4_4, Option.toList_some, Option.toList_none, List.cons_append, List.nil_append, gf_o, isO_o, pf_o, List.length_cons, List.length_nil, List.getElem?_cons_zero, List.getElem?_cons_succ, List.set_cons_zero, List.set_cons_succ, va_rf_s, up_self, rdi_a, rdi_5, rdi_0, rdi_4, wri_a, rdl_a, wrl_a, rdr_a, wrr_a, aln_0, aln_1, aln_3, aln_4, aln_5, ofI_1, ofI_m1])
      obtain ⟨v3, M3, e3, K3, h3⟩ := m_takesSign (n := n) (z := z) (H := H) hb hk he hP2 (c := 42) (by decide) (by omega) (by omega) (d + 2)
      rcases h3 with ⟨rfl, h3, hP3, y23⟩ | ⟨rfl, h3, hP3, y23⟩
      · have hx := fun l2 b0 => mul 42 M3 l2 (Or.inl rfl) h3 hP3 y23 K3 b0
        rw [Rm_aload_n (k := 0) rfl dX12_qGoesOn_122]
        simp (disch := omega) only [Rn_bipush (v := jI (42)) rfl dX12_qGoesOn_123, Rm_inV1 (d := dX12_qGoesOn_125) (hy := mo_146) (h13 := rfl) ml_12_276 rfl, Rn_if_ne (t := 140) rfl dX12_qGoesOn_128, io12 k218, io12 k218, q0, e3, qI_s, qJ_s, qR_s, qV_s, qX_s, qN_s, qW_s, qF_s, qC_s, Option.bind_some, Option.bind_none, Nat.reduceAdd, Nat.reduceBEq, Nat.reduceEqDiff, lk_nil, lk_cons, lk_pt1, lk_pt2i, isJ_i, isJ_r, isJ_l, gI_i, gJ_i, gR_i, Bool.false_eq_true, if_true, if_false, ite_true, ite_false, ↓reduceIte, len4_0, len4_1, len4_2, len4_3, len4_4, Option.toList_some, Option.toList_none, List.cons_append, List.nil_append, va_rf_s, up_hp, ofI_j, jI_add, jI_sub, jI_mul, jI_neg, jL_add, jL_sub, jL_mul, jI_jL, jL_jI, nar_i, nar_zj, lt_t, lt_f, le_t, le_f, eq_t, eq_f, ez_t, ez_f, lz_t, lz_f, gz_t, gz_f, nz_t, nz_f, pz_t, pz_f, lgc_gt, lgc_lt, lgc_ge, lgc_le, lgc_eq, Lt_t, Lt_f, Le_t, Le_f, Eq_t, Eq_f, dv_j, not_true_eq_false, not_false_eq_true, Int.reduceEq, Int.reduceAdd, Int.reduceSub, Int.reduceMul, Int.reduceNeg, Ez_t, Ez_f, dv_L, false_and, true_and, and_true, and_false]
        exact hx _ q0
      obtain ⟨v4, M4, e4, K4, h4⟩ := m_takesSign (n := n) (z := z) (H := H) hb hk he hP3 (c := 47) (by decide) (by omega) (by omega) (d + 2)
      have K34 := KT_trans K3 K4
      rcases h4 with ⟨rfl, h4, hP4, y24⟩ | ⟨rfl, h4, hP4, y24⟩
      · have hx := fun l2 b0 => mul 47 M4 l2 (Or.inr rfl) h4 hP4 y24 K34 b0
        rw [Rm_aload_n (k := 0) rfl dX12_qGoesOn_122]
        simp (disch := omega) only [Rn_bipush (v := jI (42)) rfl dX12_qGoesOn_123, Rm_inV1 (d := dX12_qGoesOn_125) (hy := mo_146) (h13 := rfl) ml_12_276 rfl, Rn_if_ne (t := 140) rfl dX12_qGoesOn_128, Rm_aload_n (k := 0) rfl dX12_qGoesOn_131, Rn_bipush (v := jI (47)) rfl dX12_qGoesOn_132, Rm_inV1 (d := dX12_qGoesOn_134) (hy := mo_146) (h13 := rfl) ml_12_276 rfl, Rn_if_eq (t := 207) rfl dX12_qGoesOn_137, io12 k218, io12 k218, q0, e3, e4, qI_s, qJ_s, qR_s, qV_s, qX_s, qN_s, qW_s, qF_s, qC_s, Option.bind_some, Option.bind_none, Nat.reduceAdd, Nat.reduceBEq, Nat.reduceEqDiff, lk_nil, lk_cons, lk_pt1, lk_pt2i, isJ_i, isJ_r, isJ_l, gI_i, gJ_i, gR_i, Bool.false_eq_true, if_true, if_false, ite_true, ite_false, ↓reduceIte, len4_0, len4_1, len4_2, len4_3, len4_4, Option.toList_some, Option.toList_none, List.cons_append, List.nil_append, va_rf_s, up_hp, ofI_j, jI_add, jI_sub, jI_mul, jI_neg, jL_add, jL_sub, jL_mul, jI_jL, jL_jI, nar_i, nar_zj, lt_t, lt_f, le_t, le_f, eq_t, eq_f, ez_t, ez_f, lz_t, lz_f, gz_t, gz_f, nz_t, nz_f, pz_t, pz_f, lgc_gt, lgc_lt, lgc_ge, lgc_le, lgc_eq, Lt_t, Lt_f, Le_t, Le_f, Eq_t, Eq_f, dv_j, not_true_eq_false, not_false_eq_true, Int.reduceEq, Int.reduceAdd, Int.reduceSub, Int.reduceMul, Int.reduceNeg, Ez_t, Ez_f, dv_L, false_and, true_and, and_true, and_false]
        exact hx _ q0
      rw [if_neg (by rintro (h | h); exact h3 h; exact h4 h)] at hms
      have ari : ∀ (c : Int) (M3 : Me) (l2 : Lo), (c = 43 ∨ c = 45) → isSg g k e c → PQ g k (tkQ g k e) (nxB g k e nb) M3 → M3 218 2 = skp g k e + 1 → KT M2 M3 → lk l2 0 = some (.ref 218) → G (Rn (X (d + 4)) 12 (some .boolean) false 2 cX12_qGoesOn (225, l2, [], (n, z, hp H M3))) := by
        intro c M3 l2 hc42 hs hP3 y2 K3 b0
        have hn := nx_step (g := g) he (by have := Sg_K hs; omega)
        have hgc := Sg_g hs
        have hPk : skp g k e < k := Classical.not_not.mp (fun q => by have := tkK_0.mpr q; have := hs.1; omega)
        rw [if_pos (by rcases hc42 with h | h <;> (rw [h] at hs; simp [hs]))] at hms
        have yv : vaF g k e = c := hs.2
        have yg : M3 219 = g := hP3.1
        have gen : ∀ s : Nat, s = (if vaF g k e = 43 then 1 else 2) → ∀ l3, lk l3 0 = some (.ref 218) → lk l3 1 = some (.int (jI (s : Int))) → G (Rn (X (d + 4)) 12 (some .boolean) false 2 cX12_qGoesOn (247, l3, [], (n, z, hp H M3))) := by
          intro s hs' l3 b0 b1
          rw [← hs'] at hms
          have hs20 : s < 20 := by rw [hs']; split <;> omega
          refine m_dropAr (s := s) hW0 G (d + 2) V C op M3 l3 hV (by omega) (QS_T hQ2 K3) b0 b1 (fun M' h => ?_)
          obtain ⟨h1, h2, h3⟩ := h
          exact hG 1 M' ⟨KB_trans KB2 (KB_trans (KB_T K3) h2), Or.inl ⟨rfl, _, hst _ hms, rfl, CI_sign isAr (fun x hx => by unfold isAr at hx; rw [decide_eq_true_iff] at hx; omega) hci hn.1 hn.2 hs20, PQ_B hP3 (h2.1 219 (by omega)) (fun i hi => h3 i (by omega)), h1, WK_B (WK_T hWK2 K3) h2⟩⟩
        rw [Rm_aload_n (k := 0) rfl dX12_qGoesOn_225]
        rcases hc42 with h | h
        · have g1 := gen 1 (by rw [yv, h]; rfl)
          rw [Int.cast_ofNat_Int] at g1
          rw [h] at hgc
          simp (disch := omega) only [Rm_getfield fl_12_7 dX12_qGoesOn_226, Rm_aload_n (k := 0) rfl dX12_qGoesOn_229, Rm_getfield fl_12_248 dX12_qGoesOn_230, Rn_iconst (v := jI (1)) rfl dX12_qGoesOn_233, Rn_isub dX12_qGoesOn_234, Rm_iaload dX12_qGoesOn_235, Rn_bipush (v := jI (43)) rfl dX12_qGoesOn_236, Rn_icmp_ne (t := 245) rfl dX12_qGoesOn_238, Rn_iconst (v := jI (1)) rfl dX12_qGoesOn_241, Rn_goto (t := 246) rfl dX12_qGoesOn_242, Rn_iconst (v := jI (2)) rfl dX12_qGoesOn_245, Rn_istore_n (k := 1) (nL := 2) rfl rfl dX12_qGoesOn_246, gs12_0 k218, rdM k219 l219, wrM k219 l219, alM k219 l219, gs12_2 k218, b0, y2, yg, show (skp g k e : Int) + 1 - 1 = skp g k e by omega, hgc, qI_s, qJ_s, qR_s, qV_s, qX_s, qN_s, qW_s, qF_s, qC_s, Option.bind_some, Option.bind_none, Nat.reduceAdd, Nat.reduceBEq, Nat.reduceEqDiff, lk_nil, lk_cons, lk_pt1, lk_pt2i, isJ_i, isJ_r, isJ_l, gI_i, gJ_i, gR_i, Bool.false_eq_true, if_true, if_false, ite_true, ite_false, ↓reduceIte, len4_0, len4_1, len4_2, len4_3, len4_4, Option.toList_some, Option.toList_none, List.cons_append, List.nil_append, va_rf_s, up_hp, ofI_j, jI_add, jI_sub, jI_mul, jI_neg, jL_add, jL_sub, jL_mul, jI_jL, jL_jI, nar_i, nar_zj, lt_t, lt_f, le_t, le_f, eq_t, eq_f, ez_t, ez_f, lz_t, lz_f, gz_t, gz_f, nz_t, nz_f, pz_t, pz_f, lgc_gt, lgc_lt, lgc_ge, lgc_le, lgc_eq, Lt_t, Lt_f, Le_t, Le_f, Eq_t, Eq_f, dv_j, not_true_eq_false, not_false_eq_true, Int.reduceEq, Int.reduceAdd, Int.reduceSub, Int.reduceMul, Int.reduceNeg, Ez_t, Ez_f, dv_L, false_and, true_and, and_true, and_false]
          exact g1 _ (by simp [Option.bind_some, Option.bind_none, Nat.reduceAdd, Nat.reduceBEq, Nat.reduceEqDiff, lk_nil, lk_cons, lk_pt1, lk_pt2, lk_pt2b, isJ_i, isJ_r, isJ_l, gI_i, gJ_i, gR_i, Bool.false_eq_true, if_true, if_false, ite_true, ite_false, reduceIte, len4_0, len4_1, len4_2, len4_3, len4_4, Option.toList_some, Option.toList_none, List.cons_append, List.nil_append, gf_o, isO_o, pf_o, List.length_cons, List.length_nil, List.getElem?_cons_zero, List.getElem?_cons_succ, List.set_cons_zero, List.set_cons_succ, va_rf_s, up_self, rdi_a, rdi_5, rdi_0, rdi_4, wri_a, rdl_a, wrl_a, rdr_a, wrr_a, aln_0, aln_1, aln_3, aln_4, aln_5, ofI_1, ofI_m1, b0]) (by simp [Option.bind_some, Option.bind_none, Nat.reduceAdd, Nat.reduceBEq, Nat.reduceEqDiff, lk_nil, lk_cons, lk_pt1, lk_pt2, lk_pt2b, isJ_i, isJ_r, isJ_l, gI_i, gJ_i, gR_i, Bool.false_eq_true, if_true, if_false, ite_true, ite_false, reduceIte, len4_0, len4_1, len4_2, len4_3, len4_4, Option.toList_some, Option.toList_none, List.cons_append, List.nil_append, gf_o, isO_o, pf_o, List.length_cons, List.length_nil, List.getElem?_cons_zero, List.getElem?_cons_succ, List.set_cons_zero, List.set_cons_succ, va_rf_s, up_self, rdi_a, rdi_5, rdi_0, rdi_4, wri_a, rdl_a, wrl_a, rdr_a, wrr_a, aln_0, aln_1, aln_3, aln_4, aln_5, ofI_1, ofI_m1])
        · have g1 := gen 2 (by rw [yv, h]; rfl)
          rw [Int.cast_ofNat_Int] at g1
          rw [h] at hgc
          simp (disch := omega) only [Rm_getfield fl_12_7 dX12_qGoesOn_226, Rm_aload_n (k := 0) rfl dX12_qGoesOn_229, Rm_getfield fl_12_248 dX12_qGoesOn_230, Rn_iconst (v := jI (1)) rfl dX12_qGoesOn_233, Rn_isub dX12_qGoesOn_234, Rm_iaload dX12_qGoesOn_235, Rn_bipush (v := jI (43)) rfl dX12_qGoesOn_236, Rn_icmp_ne (t := 245) rfl dX12_qGoesOn_238, Rn_iconst (v := jI (1)) rfl dX12_qGoesOn_241, Rn_goto (t := 246) rfl dX12_qGoesOn_242, Rn_iconst (v := jI (2)) rfl dX12_qGoesOn_245, Rn_istore_n (k := 1) (nL := 2) rfl rfl dX12_qGoesOn_246, gs12_0 k218, rdM k219 l219, wrM k219 l219, alM k219 l219, gs12_2 k218, b0, y2, yg, show (skp g k e : Int) + 1 - 1 = skp g k e by omega, hgc, qI_s, qJ_s, qR_s, qV_s, qX_s, qN_s, qW_s, qF_s, qC_s, Option.bind_some, Option.bind_none, Nat.reduceAdd, Nat.reduceBEq, Nat.reduceEqDiff, lk_nil, lk_cons, lk_pt1, lk_pt2i, isJ_i, isJ_r, isJ_l, gI_i, gJ_i, gR_i, Bool.false_eq_true, if_true, if_false, ite_true, ite_false, ↓reduceIte, len4_0, len4_1, len4_2, len4_3, len4_4, Option.toList_some, Option.toList_none, List.cons_append, List.nil_append, va_rf_s, up_hp, ofI_j, jI_add, jI_sub, jI_mul, jI_neg, jL_add, jL_sub, jL_mul, jI_jL, jL_jI, nar_i, nar_zj, lt_t, lt_f, le_t, le_f, eq_t, eq_f, ez_t, ez_f, lz_t, lz_f, gz_t, gz_f, nz_t, nz_f, pz_t, pz_f, lgc_gt, lgc_lt, lgc_ge, lgc_le, lgc_eq, Lt_t, Lt_f, Le_t, Le_f, Eq_t, Eq_f, dv_j, not_true_eq_false, not_false_eq_true, Int.reduceEq, Int.reduceAdd, Int.reduceSub, Int.reduceMul, Int.reduceNeg, Ez_t, Ez_f, dv_L, false_and, true_and, and_true, and_false]
          exact g1 _ (by simp [Option.bind_some, Option.bind_none, Nat.reduceAdd, Nat.reduceBEq, Nat.reduceEqDiff, lk_nil, lk_cons, lk_pt1, lk_pt2, lk_pt2b, isJ_i, isJ_r, isJ_l, gI_i, gJ_i, gR_i, Bool.false_eq_true, if_true, if_false, ite_true, ite_false, reduceIte, len4_0, len4_1, len4_2, len4_3, len4_4, Option.toList_some, Option.toList_none, List.cons_append, List.nil_append, gf_o, isO_o, pf_o, List.length_cons, List.length_nil, List.getElem?_cons_zero, List.getElem?_cons_succ, List.set_cons_zero, List.set_cons_succ, va_rf_s, up_self, rdi_a, rdi_5, rdi_0, rdi_4, wri_a, rdl_a, wrl_a, rdr_a, wrr_a, aln_0, aln_1, aln_3, aln_4, aln_5, ofI_1, ofI_m1, b0]) (by simp [Option.bind_some, Option.bind_none, Nat.reduceAdd, Nat.reduceBEq, Nat.reduceEqDiff, lk_nil, lk_cons, lk_pt1, lk_pt2, lk_pt2b, isJ_i, isJ_r, isJ_l, gI_i, gJ_i, gR_i, Bool.false_eq_true, if_true, if_false, ite_true, ite_false, reduceIte, len4_0, len4_1, len4_2, len4_3, len4_4, Option.toList_some, Option.toList_none, List.cons_append, List.nil_append, gf_o, isO_o, pf_o, List.length_cons, List.length_nil, List.getElem?_cons_zero, List.getElem?_cons_succ, List.set_cons_zero, List.set_cons_succ, va_rf_s, up_self, rdi_a, rdi_5, rdi_0, rdi_4, wri_a, rdl_a, wrl_a, rdr_a, wrr_a, aln_0, aln_1, aln_3, aln_4, aln_5, ofI_1, ofI_m1])
      obtain ⟨v5, M5, e5, K5, h5⟩ := m_takesSign (n := n) (z := z) (H := H) hb hk he hP4 (c := 43) (by decide) (by omega) (by omega) (d + 2)
      have K35 := KT_trans K34 K5
      rcases h5 with ⟨rfl, h5, hP5, y25⟩ | ⟨rfl, h5, hP5, y25⟩
      · have hx := fun l2 b0 => ari 43 M5 l2 (Or.inl rfl) h5 hP5 y25 K35 b0
        rw [Rm_aload_n (k := 0) rfl dX12_qGoesOn_122]
        simp (disch := omega) only [Rn_bipush (v := jI (42)) rfl dX12_qGoesOn_123, Rm_inV1 (d := dX12_qGoesOn_125) (hy := mo_146) (h13 := rfl) ml_12_276 rfl, Rn_if_ne (t := 140) rfl dX12_qGoesOn_128, Rm_aload_n (k := 0) rfl dX12_qGoesOn_131, Rn_bipush (v := jI (47)) rfl dX12_qGoesOn_132, Rm_inV1 (d := dX12_qGoesOn_134) (hy := mo_146) (h13 := rfl) ml_12_276 rfl, Rn_if_eq (t := 207) rfl dX12_qGoesOn_137, io12 k218, Rm_aload_n (k := 0) rfl dX12_qGoesOn_207, Rn_bipush (v := jI (43)) rfl dX12_qGoesOn_208, Rm_inV1 (d := dX12_qGoesOn_210) (hy := mo_146) (h13 := rfl) ml_12_276 rfl, Rn_if_ne (t := 225) rfl dX12_qGoesOn_213, io12 k218, io12 k218, q0, e3, e4, e5, qI_s, qJ_s, qR_s, qV_s, qX_s, qN_s, qW_s, qF_s, qC_s, Option.bind_some, Option.bind_none, Nat.reduceAdd, Nat.reduceBEq, Nat.reduceEqDiff, lk_nil, lk_cons, lk_pt1, lk_pt2i, isJ_i, isJ_r, isJ_l, gI_i, gJ_i, gR_i, Bool.false_eq_true, if_true, if_false, ite_true, ite_false, ↓reduceIte, len4_0, len4_1, len4_2, len4_3, len4_4, Option.toList_some, Option.toList_none, List.cons_append, List.nil_append, va_rf_s, up_hp, ofI_j, jI_add, jI_sub, jI_mul, jI_neg, jL_add, jL_sub, jL_mul, jI_jL, jL_jI, nar_i, nar_zj, lt_t, lt_f, le_t, le_f, eq_t, eq_f, ez_t, ez_f, lz_t, lz_f, gz_t, gz_f, nz_t, nz_f, pz_t, pz_f, lgc_gt, lgc_lt, lgc_ge, lgc_le, lgc_eq, Lt_t, Lt_f, Le_t, Le_f, Eq_t, Eq_f, dv_j, not_true_eq_false, not_false_eq_true, Int.reduceEq, Int.reduceAdd, Int.reduceSub, Int.reduceMul, Int.reduceNeg, Ez_t, Ez_f, dv_L, false_and, true_and, and_true, and_false]
        exact hx _ q0
      obtain ⟨v6, M6, e6, K6, h6⟩ := m_takesSign (n := n) (z := z) (H := H) hb hk he hP5 (c := 45) (by decide) (by omega) (by omega) (d + 2)
      have K36 := KT_trans K35 K6
      rcases h6 with ⟨rfl, h6, hP6, y26⟩ | ⟨rfl, h6, hP6, y26⟩
      · have hx := fun l2 b0 => ari 45 M6 l2 (Or.inr rfl) h6 hP6 y26 K36 b0
        rw [Rm_aload_n (k := 0) rfl dX12_qGoesOn_122]
        simp (disch := omega) only [Rn_bipush (v := jI (42)) rfl dX12_qGoesOn_123, Rm_inV1 (d := dX12_qGoesOn_125) (hy := mo_146) (h13 := rfl) ml_12_276 rfl, Rn_if_ne (t := 140) rfl dX12_qGoesOn_128, Rm_aload_n (k := 0) rfl dX12_qGoesOn_131, Rn_bipush (v := jI (47)) rfl dX12_qGoesOn_132, Rm_inV1 (d := dX12_qGoesOn_134) (hy := mo_146) (h13 := rfl) ml_12_276 rfl, Rn_if_eq (t := 207) rfl dX12_qGoesOn_137, io12 k218, Rm_aload_n (k := 0) rfl dX12_qGoesOn_207, Rn_bipush (v := jI (43)) rfl dX12_qGoesOn_208, Rm_inV1 (d := dX12_qGoesOn_210) (hy := mo_146) (h13 := rfl) ml_12_276 rfl, Rn_if_ne (t := 225) rfl dX12_qGoesOn_213, Rm_aload_n (k := 0) rfl dX12_qGoesOn_216, Rn_bipush (v := jI (45)) rfl dX12_qGoesOn_217, Rm_inV1 (d := dX12_qGoesOn_219) (hy := mo_146) (h13 := rfl) ml_12_276 rfl, Rn_if_eq (t := 308) rfl dX12_qGoesOn_222, io12 k218, io12 k218, q0, e3, e4, e5, e6, qI_s, qJ_s, qR_s, qV_s, qX_s, qN_s, qW_s, qF_s, qC_s, Option.bind_some, Option.bind_none, Nat.reduceAdd, Nat.reduceBEq, Nat.reduceEqDiff, lk_nil, lk_cons, lk_pt1, lk_pt2i, isJ_i, isJ_r, isJ_l, gI_i, gJ_i, gR_i, Bool.false_eq_true, if_true, if_false, ite_true, ite_false, ↓reduceIte, len4_0, len4_1, len4_2, len4_3, len4_4, Option.toList_some, Option.toList_none, List.cons_append, List.nil_append, va_rf_s, up_hp, ofI_j, jI_add, jI_sub, jI_mul, jI_neg, jL_add, jL_sub, jL_mul, jI_jL, jL_jI, nar_i, nar_zj, lt_t, lt_f, le_t, le_f, eq_t, eq_f, ez_t, ez_f, lz_t, lz_f, gz_t, gz_f, nz_t, nz_f, pz_t, pz_f, lgc_gt, lgc_lt, lgc_ge, lgc_le, lgc_eq, Lt_t, Lt_f, Le_t, Le_f, Eq_t, Eq_f, dv_j, not_true_eq_false, not_false_eq_true, Int.reduceEq, Int.reduceAdd, Int.reduceSub, Int.reduceMul, Int.reduceNeg, Ez_t, Ez_f, dv_L, false_and, true_and, and_true, and_false]
        exact hx _ q0
      rw [if_neg (by rintro (h | h); exact h5 h; exact h6 h)] at hms
      clear ari mul
      have hQ6 := QS_T hQ2 K36
      have hWK6 := WK_T hWK2 K36
      have KB6 := KB_trans KB2 (KB_T K36)
      have ebr6 := m_qBracket (n := n) (z := z) (H := H) hQ6 (by rw [hlW]; omega) hV (d + 2)
      have y56 : M6 218 5 = 0 := hP6.2.2.2.2.1
      have hgo : ∀ T : Option Rs → Prop, T (Rn (X (d + 4)) 12 (some .boolean) false 2 cX12_qGoesOn (308, l1, [], (n, z, hp H M6))) → T (Rn (X (d + 4)) 12 (some .boolean) false 2 cX12_qGoesOn (122, l1, [], (n, z, hp H M2))) := by
        intro T hT
        rw [Rm_aload_n (k := 0) rfl dX12_qGoesOn_122]
        simp (disch := omega) only [Rn_bipush (v := jI (42)) rfl dX12_qGoesOn_123, Rm_inV1 (d := dX12_qGoesOn_125) (hy := mo_146) (h13 := rfl) ml_12_276 rfl, Rn_if_ne (t := 140) rfl dX12_qGoesOn_128, Rm_aload_n (k := 0) rfl dX12_qGoesOn_131, Rn_bipush (v := jI (47)) rfl dX12_qGoesOn_132, Rm_inV1 (d := dX12_qGoesOn_134) (hy := mo_146) (h13 := rfl) ml_12_276 rfl, Rn_if_eq (t := 207) rfl dX12_qGoesOn_137, io12 k218, Rm_aload_n (k := 0) rfl dX12_qGoesOn_207, Rn_bipush (v := jI (43)) rfl dX12_qGoesOn_208, Rm_inV1 (d := dX12_qGoesOn_210) (hy := mo_146) (h13 := rfl) ml_12_276 rfl, Rn_if_ne (t := 225) rfl dX12_qGoesOn_213, Rm_aload_n (k := 0) rfl dX12_qGoesOn_216, Rn_bipush (v := jI (45)) rfl dX12_qGoesOn_217, Rm_inV1 (d := dX12_qGoesOn_219) (hy := mo_146) (h13 := rfl) ml_12_276 rfl, Rn_if_eq (t := 308) rfl dX12_qGoesOn_222, io12 k218, io12 k218, q0, e3, e4, e5, e6, qI_s, qJ_s, qR_s, qV_s, qX_s, qN_s, qW_s, qF_s, qC_s, Option.bind_some, Option.bind_none, Nat.reduceAdd, Nat.reduceBEq, Nat.reduceEqDiff, lk_nil, lk_cons, lk_pt1, lk_pt2i, isJ_i, isJ_r, isJ_l, gI_i, gJ_i, gR_i, Bool.false_eq_true, if_true, if_false, ite_true, ite_false, ↓reduceIte, len4_0, len4_1, len4_2, len4_3, len4_4, Option.toList_some, Option.toList_none, List.cons_append, List.nil_append, va_rf_s, up_hp, ofI_j, jI_add, jI_sub, jI_mul, jI_neg, jL_add, jL_sub, jL_mul, jI_jL, jL_jI, nar_i, nar_zj, lt_t, lt_f, le_t, le_f, eq_t, eq_f, ez_t, ez_f, lz_t, lz_f, gz_t, gz_f, nz_t, nz_f, pz_t, pz_f, lgc_gt, lgc_lt, lgc_ge, lgc_le, lgc_eq, Lt_t, Lt_f, Le_t, Le_f, Eq_t, Eq_f, dv_j, not_true_eq_false, not_false_eq_true, Int.reduceEq, Int.reduceAdd, Int.reduceSub, Int.reduceMul, Int.reduceNeg, Ez_t, Ez_f, dv_L, false_and, true_and, and_true, and_false]
        exact hT
      refine hgo G ?_
      clear hgo
      rw [Rm_aload_n (k := 0) rfl dX12_qGoesOn_308]
      by_cases h21 : brk V = 21 ∨ brk V = 22
      · rw [if_pos h21] at hms
        rw [if_neg (by omega)] at ebr6
        obtain ⟨M7, e7, K7, h7⟩ := m_asksSign (n := n) (z := z) (H := H) hb hk he hP6 (c := 44) (by decide) (by omega) (by omega) (d + 1)
        rcases h7 with ⟨h7, hP7⟩ | ⟨h7, hF7⟩
        · have hn := nx_step (g := g) he (by have := Sg_K h7; omega)
          rw [if_pos h7] at hms
          obtain ⟨V', hdw, hb1, hb2⟩ := brk_dec (V := V) (by omega)
          rw [hdw, List.tail_cons] at hms
          have y57 : M7 218 5 = 0 := hP7.2.2.2.2.1
          obtain ⟨M8, e8, hQ8, K8, f8⟩ := m_qDropsToBracket (n := n) (z := z) (H := H) (by rw [hlW]; omega) hV (QS_T hQ6 K7) (d + 1)
          rw [hdw, List.reverse_cons, ← List.append_assoc] at hQ8
          obtain ⟨a1, a2, a3, a4, a5⟩ := hQ8
          have s1 := cntO_split (fun x => !isBr x) V
          have s2 := len_split (fun x => !isBr x) V
          rw [hdw] at s1 s2
          simp only [cntO, List.length_cons] at s1 s2
          rw [if_pos (by omega)] at s1
          generalize hD : V.takeWhile (fun x => !isBr x) = D at *
          rw [il_app] at a1
          obtain ⟨t1, t2⟩ := LSq_top (x := (brk V : Int)) a1
          have hset := LSq_set (y := ((brk V + 2 : Nat) : Int)) (show ¬ 289 = 218 by omega) (x := (brk V : Int)) a1
          rw [il_len] at t1 t2 hset
          have hl' : (W0 ++ V'.reverse).length = W0.length + V'.length := by simp
          rw [hl'] at t1 t2 hset
          have e94 : ((W0.length + V'.length : Nat) : Int) + 1 - 1 = ((W0.length + V'.length : Nat) : Int) := by omega
          have hV' : ∀ x ∈ V', x < 1000 := fun x hx => hV x ((List.dropWhile_sublist (fun x => !isBr x)).subset (by rw [hdw]; exact List.mem_cons_of_mem _ hx))
          have f9 : ∀ i v, st M8 289 i v 218 = M8 218 := fun i v => st_ne _ _ _ (by omega)
          have r := hG 1 (st M8 289 ((W0.length + V'.length : Nat) : Int) ((brk V + 2 : Nat) : Int)) ⟨KB_trans KB6 (KB_trans (KB_T K7) (KB_trans K8 ⟨fun b hb => st_ne _ _ _ (by omega), fun i hi => by rw [f9]⟩)), Or.inl ⟨rfl, _, hst _ hms, rfl, ⟨hn.2, hop, ?_, ?_, ?_⟩, PQ_B hP7 (by rw [st_ne _ _ _ (by omega), K8.1 219 (by omega)]) (fun i hi => by rw [f9, f8 i (by omega)]), ⟨?_, LSq_frame a2 (by rw [f9]) (st_ne _ _ _ (by omega)), by rw [f9]; exact a3, by rw [f9]; exact a4, by rw [f9]; exact a5⟩, WK_B (WK_T hWK6 K7) (KB_trans K8 ⟨fun b hb => st_ne _ _ _ (by omega), fun i hi => by rw [f9]⟩)⟩⟩
          · rw [show ((brk V + 2 : Nat) : Int) = (brk V : Int) + 2 by omega] at r
            rcases h21 with h | h
            · rw [h, Int.cast_ofNat_Int] at ebr6 t2 r
              simp (disch := omega) only [Rm_inV0 (d := dX12_qGoesOn_309) (hy := mo_243) (h13 := rfl) ml_12_631 rfl, Rn_bipush (v := jI (21)) rfl dX12_qGoesOn_312, Rn_icmp_eq (t := 326) rfl dX12_qGoesOn_314, Rm_aload_n (k := 0) rfl dX12_qGoesOn_317, Rm_inV0 (d := dX12_qGoesOn_318) (hy := mo_243) (h13 := rfl) ml_12_631 rfl, Rn_bipush (v := jI (22)) rfl dX12_qGoesOn_321, Rn_icmp_ne (t := 362) rfl dX12_qGoesOn_323, Rm_aload_n (k := 0) rfl dX12_qGoesOn_326, Rn_bipush (v := jI (44)) rfl dX12_qGoesOn_327, Rm_inV1 (d := dX12_qGoesOn_329) (hy := mo_147) (h13 := rfl) ml_12_386 rfl, Rm_aload_n (k := 0) rfl dX12_qGoesOn_332, Rm_getfield fl_12_242 dX12_qGoesOn_333, Rn_if_eq (t := 341) rfl dX12_qGoesOn_336, Rn_iconst (v := jI (0)) rfl dX12_qGoesOn_339, Rn_ireturn (ty := .boolean) rfl dX12_qGoesOn_340, Rm_aload_n (k := 0) rfl dX12_qGoesOn_341, Rm_inV0 (d := dX12_qGoesOn_342) (hy := mo_244) (h13 := rfl) ml_12_634 rfl, Rm_aload_n (k := 0) rfl dX12_qGoesOn_345, Rm_getfield fl_12_230 dX12_qGoesOn_346, Rm_aload_n (k := 0) rfl dX12_qGoesOn_349, Rm_getfield fl_12_344 dX12_qGoesOn_350, Rn_iconst (v := jI (1)) rfl dX12_qGoesOn_353, Rn_isub dX12_qGoesOn_354, Rn_dup2 dX12_qGoesOn_355, Rm_iaload dX12_qGoesOn_356, Rn_iconst (v := jI (2)) rfl dX12_qGoesOn_357, Rn_iadd dX12_qGoesOn_358, Rm_iastore dX12_qGoesOn_359, Rn_iconst (v := jI (1)) rfl dX12_qGoesOn_360, Rn_ireturn (ty := .boolean) rfl dX12_qGoesOn_361, gs12_5 k218, gs12_93 k218, rdM k289 l289, wrM k289 l289, alM k289 l289, gs12_94 k218, io12 k218, Rn_dup2 dX12_qGoesOn_355, io12 k218, q0, ebr6, e7, y57, e8, t1, e94, t2, qI_s, qJ_s, qR_s, qV_s, qX_s, qN_s, qW_s, qF_s, qC_s, Option.bind_some, Option.bind_none, Nat.reduceAdd, Nat.reduceBEq, Nat.reduceEqDiff, lk_nil, lk_cons, lk_pt1, lk_pt2i, isJ_i, isJ_r, isJ_l, gI_i, gJ_i, gR_i, Bool.false_eq_true, if_true, if_false, ite_true, ite_false, ↓reduceIte, len4_0, len4_1, len4_2, len4_3, len4_4, Option.toList_some, Option.toList_none, List.cons_append, List.nil_append, va_rf_s, up_hp, ofI_j, jI_add, jI_sub, jI_mul, jI_neg, jL_add, jL_sub, jL_mul, jI_jL, jL_jI, nar_i, nar_zj, lt_t, lt_f, le_t, le_f, eq_t, eq_f, ez_t, ez_f, lz_t, lz_f, gz_t, gz_f, nz_t, nz_f, pz_t, pz_f, lgc_gt, lgc_lt, lgc_ge, lgc_le, lgc_eq, Lt_t, Lt_f, Le_t, Le_f, Eq_t, Eq_f, dv_j, not_true_eq_false, not_false_eq_true, Int.reduceEq, Int.reduceAdd, Int.reduceSub, Int.reduceMul, Int.reduceNeg, Ez_t, Ez_f, dv_L, false_and, true_and, and_true, and_false]
              exact r
            · rw [h, Int.cast_ofNat_Int] at ebr6 t2 r
              simp (disch := omega) only [Rm_inV0 (d := dX12_qGoesOn_309) (hy := mo_243) (h13 := rfl) ml_12_631 rfl, Rn_bipush (v := jI (21)) rfl dX12_qGoesOn_312, Rn_icmp_eq (t := 326) rfl dX12_qGoesOn_314, Rm_aload_n (k := 0) rfl dX12_qGoesOn_317, Rm_inV0 (d := dX12_qGoesOn_318) (hy := mo_243) (h13 := rfl) ml_12_631 rfl, Rn_bipush (v := jI (22)) rfl dX12_qGoesOn_321, Rn_icmp_ne (t := 362) rfl dX12_qGoesOn_323, Rm_aload_n (k := 0) rfl dX12_qGoesOn_326, Rn_bipush (v := jI (44)) rfl dX12_qGoesOn_327, Rm_inV1 (d := dX12_qGoesOn_329) (hy := mo_147) (h13 := rfl) ml_12_386 rfl, Rm_aload_n (k := 0) rfl dX12_qGoesOn_332, Rm_getfield fl_12_242 dX12_qGoesOn_333, Rn_if_eq (t := 341) rfl dX12_qGoesOn_336, Rn_iconst (v := jI (0)) rfl dX12_qGoesOn_339, Rn_ireturn (ty := .boolean) rfl dX12_qGoesOn_340, Rm_aload_n (k := 0) rfl dX12_qGoesOn_341, Rm_inV0 (d := dX12_qGoesOn_342) (hy := mo_244) (h13 := rfl) ml_12_634 rfl, Rm_aload_n (k := 0) rfl dX12_qGoesOn_345, Rm_getfield fl_12_230 dX12_qGoesOn_346, Rm_aload_n (k := 0) rfl dX12_qGoesOn_349, Rm_getfield fl_12_344 dX12_qGoesOn_350, Rn_iconst (v := jI (1)) rfl dX12_qGoesOn_353, Rn_isub dX12_qGoesOn_354, Rn_dup2 dX12_qGoesOn_355, Rm_iaload dX12_qGoesOn_356, Rn_iconst (v := jI (2)) rfl dX12_qGoesOn_357, Rn_iadd dX12_qGoesOn_358, Rm_iastore dX12_qGoesOn_359, Rn_iconst (v := jI (1)) rfl dX12_qGoesOn_360, Rn_ireturn (ty := .boolean) rfl dX12_qGoesOn_361, gs12_5 k218, gs12_93 k218, rdM k289 l289, wrM k289 l289, alM k289 l289, gs12_94 k218, io12 k218, Rn_dup2 dX12_qGoesOn_355, io12 k218, q0, ebr6, e7, y57, e8, t1, e94, t2, qI_s, qJ_s, qR_s, qV_s, qX_s, qN_s, qW_s, qF_s, qC_s, Option.bind_some, Option.bind_none, Nat.reduceAdd, Nat.reduceBEq, Nat.reduceEqDiff, lk_nil, lk_cons, lk_pt1, lk_pt2i, isJ_i, isJ_r, isJ_l, gI_i, gJ_i, gR_i, Bool.false_eq_true, if_true, if_false, ite_true, ite_false, ↓reduceIte, len4_0, len4_1, len4_2, len4_3, len4_4, Option.toList_some, Option.toList_none, List.cons_append, List.nil_append, va_rf_s, up_hp, ofI_j, jI_add, jI_sub, jI_mul, jI_neg, jL_add, jL_sub, jL_mul, jI_jL, jL_jI, nar_i, nar_zj, lt_t, lt_f, le_t, le_f, eq_t, eq_f, ez_t, ez_f, lz_t, lz_f, gz_t, gz_f, nz_t, nz_f, pz_t, pz_f, lgc_gt, lgc_lt, lgc_ge, lgc_le, lgc_eq, Lt_t, Lt_f, Le_t, Le_f, Eq_t, Eq_f, dv_j, not_true_eq_false, not_false_eq_true, Int.reduceEq, Int.reduceAdd, Int.reduceSub, Int.reduceMul, Int.reduceNeg, Ez_t, Ez_f, dv_L, false_and, true_and, and_true, and_false]
              exact r
          · show cntO V' + (if 20 ≤ brk V + 2 then 1 else 0) ≤ op
            rw [if_pos (by omega)]
            omega
          · intro x hx
            have hx : x ∈ (brk V + 2) :: V' := hx
            rw [List.mem_cons] at hx
            rcases hx with rfl | hx
            · omega
            · exact hV' x hx
          · show W0.length + ((brk V + 2) :: V').length + (C ++ D).length ≤ tkQ g k e
            rw [List.length_cons, List.length_append]
            omega
          · show LSq _ _ _ _ (il (W0 ++ ((brk V + 2) :: V').reverse))
            rw [List.reverse_cons, ← List.append_assoc, il_app]
            exact hset
        · rw [if_neg h7] at hms
          have y57 : M7 218 5 = 1 := hF7.1
          have r := hG 0 M7 ⟨KB_trans KB6 (KB_T K7), Or.inr (Or.inr ⟨rfl, 1, skp g k e, hst _ hms, by omega, hF7, QB_Q (QS_T hQ6 K7) (by omega)⟩)⟩
          rcases h21 with h | h
          · rw [h, Int.cast_ofNat_Int] at ebr6
            simp (disch := omega) only [Rm_inV0 (d := dX12_qGoesOn_309) (hy := mo_243) (h13 := rfl) ml_12_631 rfl, Rn_bipush (v := jI (21)) rfl dX12_qGoesOn_312, Rn_icmp_eq (t := 326) rfl dX12_qGoesOn_314, Rm_aload_n (k := 0) rfl dX12_qGoesOn_317, Rm_inV0 (d := dX12_qGoesOn_318) (hy := mo_243) (h13 := rfl) ml_12_631 rfl, Rn_bipush (v := jI (22)) rfl dX12_qGoesOn_321, Rn_icmp_ne (t := 362) rfl dX12_qGoesOn_323, Rm_aload_n (k := 0) rfl dX12_qGoesOn_326, Rn_bipush (v := jI (44)) rfl dX12_qGoesOn_327, Rm_inV1 (d := dX12_qGoesOn_329) (hy := mo_147) (h13 := rfl) ml_12_386 rfl, Rm_aload_n (k := 0) rfl dX12_qGoesOn_332, Rm_getfield fl_12_242 dX12_qGoesOn_333, Rn_if_eq (t := 341) rfl dX12_qGoesOn_336, Rn_iconst (v := jI (0)) rfl dX12_qGoesOn_339, Rn_ireturn (ty := .boolean) rfl dX12_qGoesOn_340, gs12_5 k218, io12 k218, io12 k218, q0, ebr6, e7, y57, qI_s, qJ_s, qR_s, qV_s, qX_s, qN_s, qW_s, qF_s, qC_s, Option.bind_some, Option.bind_none, Nat.reduceAdd, Nat.reduceBEq, Nat.reduceEqDiff, lk_nil, lk_cons, lk_pt1, lk_pt2i, isJ_i, isJ_r, isJ_l, gI_i, gJ_i, gR_i, Bool.false_eq_true, if_true, if_false, ite_true, ite_false, ↓reduceIte, len4_0, len4_1, len4_2, len4_3, len4_4, Option.toList_some, Option.toList_none, List.cons_append, List.nil_append, va_rf_s, up_hp, ofI_j, jI_add, jI_sub, jI_mul, jI_neg, jL_add, jL_sub, jL_mul, jI_jL, jL_jI, nar_i, nar_zj, lt_t, lt_f, le_t, le_f, eq_t, eq_f, ez_t, ez_f, lz_t, lz_f, gz_t, gz_f, nz_t, nz_f, pz_t, pz_f, lgc_gt, lgc_lt, lgc_ge, lgc_le, lgc_eq, Lt_t, Lt_f, Le_t, Le_f, Eq_t, Eq_f, dv_j, not_true_eq_false, not_false_eq_true, Int.reduceEq, Int.reduceAdd, Int.reduceSub, Int.reduceMul, Int.reduceNeg, Ez_t, Ez_f, dv_L, false_and, true_and, and_true, and_false]
            exact r
          · rw [h, Int.cast_ofNat_Int] at ebr6
            simp (disch := omega) only [Rm_inV0 (d := dX12_qGoesOn_309) (hy := mo_243) (h13 := rfl) ml_12_631 rfl, Rn_bipush (v := jI (21)) rfl dX12_qGoesOn_312, Rn_icmp_eq (t := 326) rfl dX12_qGoesOn_314, Rm_aload_n (k := 0) rfl dX12_qGoesOn_317, Rm_inV0 (d := dX12_qGoesOn_318) (hy := mo_243) (h13 := rfl) ml_12_631 rfl, Rn_bipush (v := jI (22)) rfl dX12_qGoesOn_321, Rn_icmp_ne (t := 362) rfl dX12_qGoesOn_323, Rm_aload_n (k := 0) rfl dX12_qGoesOn_326, Rn_bipush (v := jI (44)) rfl dX12_qGoesOn_327, Rm_inV1 (d := dX12_qGoesOn_329) (hy := mo_147) (h13 := rfl) ml_12_386 rfl, Rm_aload_n (k := 0) rfl dX12_qGoesOn_332, Rm_getfield fl_12_242 dX12_qGoesOn_333, Rn_if_eq (t := 341) rfl dX12_qGoesOn_336, Rn_iconst (v := jI (0)) rfl dX12_qGoesOn_339, Rn_ireturn (ty := .boolean) rfl dX12_qGoesOn_340, gs12_5 k218, io12 k218, io12 k218, q0, ebr6, e7, y57, qI_s, qJ_s, qR_s, qV_s, qX_s, qN_s, qW_s, qF_s, qC_s, Option.bind_some, Option.bind_none, Nat.reduceAdd, Nat.reduceBEq, Nat.reduceEqDiff, lk_nil, lk_cons, lk_pt1, lk_pt2i, isJ_i, isJ_r, isJ_l, gI_i, gJ_i, gR_i, Bool.false_eq_true, if_true, if_false, ite_true, ite_false, ↓reduceIte, len4_0, len4_1, len4_2, len4_3, len4_4, Option.toList_some, Option.toList_none, List.cons_append, List.nil_append, va_rf_s, up_hp, ofI_j, jI_add, jI_sub, jI_mul, jI_neg, jL_add, jL_sub, jL_mul, jI_jL, jL_jI, nar_i, nar_zj, lt_t, lt_f, le_t, le_f, eq_t, eq_f, ez_t, ez_f, lz_t, lz_f, gz_t, gz_f, nz_t, nz_f, pz_t, pz_f, lgc_gt, lgc_lt, lgc_ge, lgc_le, lgc_eq, Lt_t, Lt_f, Le_t, Le_f, Eq_t, Eq_f, dv_j, not_true_eq_false, not_false_eq_true, Int.reduceEq, Int.reduceAdd, Int.reduceSub, Int.reduceMul, Int.reduceNeg, Ez_t, Ez_f, dv_L, false_and, true_and, and_true, and_false]
            exact r
      · rw [if_neg h21] at hms
        by_cases hz : brk V = 0
        · rw [if_pos hz] at hms ebr6
          have r := hG 0 M6 ⟨KB6, Or.inr (Or.inl ⟨rfl, _, hst _ hms, rfl, hci, hP6, hQ6, hWK6⟩)⟩
          simp (disch := omega) only [Rm_inV0 (d := dX12_qGoesOn_309) (hy := mo_243) (h13 := rfl) ml_12_631 rfl, Rn_bipush (v := jI (21)) rfl dX12_qGoesOn_312, Rn_icmp_eq (t := 326) rfl dX12_qGoesOn_314, Rm_aload_n (k := 0) rfl dX12_qGoesOn_317, Rm_inV0 (d := dX12_qGoesOn_318) (hy := mo_243) (h13 := rfl) ml_12_631 rfl, Rn_bipush (v := jI (22)) rfl dX12_qGoesOn_321, Rn_icmp_ne (t := 362) rfl dX12_qGoesOn_323, io12 k218, Rm_aload_n (k := 0) rfl dX12_qGoesOn_362, Rm_inV0 (d := dX12_qGoesOn_363) (hy := mo_243) (h13 := rfl) ml_12_631 rfl, Rn_iconst (v := jI (-1)) rfl dX12_qGoesOn_366, Rn_icmp_eq (t := 386) rfl dX12_qGoesOn_367, Rm_aload_n (k := 0) rfl dX12_qGoesOn_370, Rm_getfield fl_12_242 dX12_qGoesOn_371, Rn_if_ne (t := 386) rfl dX12_qGoesOn_374, Rm_aload_n (k := 0) rfl dX12_qGoesOn_377, Rn_iconst (v := jI (1)) rfl dX12_qGoesOn_378, Rm_aload_n (k := 0) rfl dX12_qGoesOn_379, Rm_getfield fl_12_248 dX12_qGoesOn_380, Rm_inV2 (d := dX12_qGoesOn_383) (hy := mo_139) (h13 := rfl) ml_12_272 rfl, Rn_iconst (v := jI (0)) rfl dX12_qGoesOn_386, Rn_ireturn (ty := .boolean) rfl dX12_qGoesOn_387, gs12_2 k218, gs12_5 k218, io12 k218, io12 k218, q0, ebr6, qI_s, qJ_s, qR_s, qV_s, qX_s, qN_s, qW_s, qF_s, qC_s, Option.bind_some, Option.bind_none, Nat.reduceAdd, Nat.reduceBEq, Nat.reduceEqDiff, lk_nil, lk_cons, lk_pt1, lk_pt2i, isJ_i, isJ_r, isJ_l, gI_i, gJ_i, gR_i, Bool.false_eq_true, if_true, if_false, ite_true, ite_false, ↓reduceIte, len4_0, len4_1, len4_2, len4_3, len4_4, Option.toList_some, Option.toList_none, List.cons_append, List.nil_append, va_rf_s, up_hp, ofI_j, jI_add, jI_sub, jI_mul, jI_neg, jL_add, jL_sub, jL_mul, jI_jL, jL_jI, nar_i, nar_zj, lt_t, lt_f, le_t, le_f, eq_t, eq_f, ez_t, ez_f, lz_t, lz_f, gz_t, gz_f, nz_t, nz_f, pz_t, pz_f, lgc_gt, lgc_lt, lgc_ge, lgc_le, lgc_eq, Lt_t, Lt_f, Le_t, Le_f, Eq_t, Eq_f, dv_j, not_true_eq_false, not_false_eq_true, Int.reduceEq, Int.reduceAdd, Int.reduceSub, Int.reduceMul, Int.reduceNeg, Ez_t, Ez_f, dv_L, false_and, true_and, and_true, and_false]
          exact r
        · rw [if_neg hz] at hms ebr6
          have ef := m_fail0 (n := n) (z := z) (H := H) (M := M6) (a := 1) (p := skp g k e) y56 (d + 3)
          have r := hG 0 (st (st M6 218 5 1) 218 6 (skp g k e)) ⟨KB_trans KB6 (KB_T (KT_st (KT_st (KT_refl M6) (by omega)) (by omega))), Or.inr (Or.inr ⟨rfl, 1, skp g k e, hst _ hms, by omega, ⟨by rw [st_self, su_ne _ _ (by omega), st_self, su_self]; rfl, by rw [st_self, su_self]⟩, QB_Q (QS_T hQ6 (KT_st (KT_st (KT_refl M6) (i := 5) (v := 1) (by omega)) (i := 6) (v := skp g k e) (by omega))) (by omega)⟩)⟩
          simp (disch := omega) only [Rm_inV0 (d := dX12_qGoesOn_309) (hy := mo_243) (h13 := rfl) ml_12_631 rfl, Rn_bipush (v := jI (21)) rfl dX12_qGoesOn_312, Rn_icmp_eq (t := 326) rfl dX12_qGoesOn_314, Rm_aload_n (k := 0) rfl dX12_qGoesOn_317, Rm_inV0 (d := dX12_qGoesOn_318) (hy := mo_243) (h13 := rfl) ml_12_631 rfl, Rn_bipush (v := jI (22)) rfl dX12_qGoesOn_321, Rn_icmp_ne (t := 362) rfl dX12_qGoesOn_323, io12 k218, Rm_aload_n (k := 0) rfl dX12_qGoesOn_362, Rm_inV0 (d := dX12_qGoesOn_363) (hy := mo_243) (h13 := rfl) ml_12_631 rfl, Rn_iconst (v := jI (-1)) rfl dX12_qGoesOn_366, Rn_icmp_eq (t := 386) rfl dX12_qGoesOn_367, Rm_aload_n (k := 0) rfl dX12_qGoesOn_370, Rm_getfield fl_12_242 dX12_qGoesOn_371, Rn_if_ne (t := 386) rfl dX12_qGoesOn_374, Rm_aload_n (k := 0) rfl dX12_qGoesOn_377, Rn_iconst (v := jI (1)) rfl dX12_qGoesOn_378, Rm_aload_n (k := 0) rfl dX12_qGoesOn_379, Rm_getfield fl_12_248 dX12_qGoesOn_380, Rm_inV2 (d := dX12_qGoesOn_383) (hy := mo_139) (h13 := rfl) ml_12_272 rfl, Rn_iconst (v := jI (0)) rfl dX12_qGoesOn_386, Rn_ireturn (ty := .boolean) rfl dX12_qGoesOn_387, gs12_2 k218, gs12_5 k218, io12 k218, io12 k218, q0, ebr6, y56, y26, ef, qI_s, qJ_s, qR_s, qV_s, qX_s, qN_s, qW_s, qF_s, qC_s, Option.bind_some, Option.bind_none, Nat.reduceAdd, Nat.reduceBEq, Nat.reduceEqDiff, lk_nil, lk_cons, lk_pt1, lk_pt2i, isJ_i, isJ_r, isJ_l, gI_i, gJ_i, gR_i, Bool.false_eq_true, if_true, if_false, ite_true, ite_false, ↓reduceIte, len4_0, len4_1, len4_2, len4_3, len4_4, Option.toList_some, Option.toList_none, List.cons_append, List.nil_append, va_rf_s, up_hp, ofI_j, jI_add, jI_sub, jI_mul, jI_neg, jL_add, jL_sub, jL_mul, jI_jL, jL_jI, nar_i, nar_zj, lt_t, lt_f, le_t, le_f, eq_t, eq_f, ez_t, ez_f, lz_t, lz_f, gz_t, gz_f, nz_t, nz_f, pz_t, pz_f, lgc_gt, lgc_lt, lgc_ge, lgc_le, lgc_eq, Lt_t, Lt_f, Le_t, Le_f, Eq_t, Eq_f, dv_j, not_true_eq_false, not_false_eq_true, Int.reduceEq, Int.reduceAdd, Int.reduceSub, Int.reduceMul, Int.reduceNeg, Ez_t, Ez_f, dv_L, false_and, true_and, and_true, and_false]
          exact r
  rw [Xe_X12_qGoesOn]
  obtain ⟨ph, e, nb, op, V, C⟩ := c0
  dsimp only at h0
  subst h0
  exact key _ e op nb V C M _ rfl hc hM (KB_refl M) ⟨0, rfl⟩ (by simp [Option.bind_some, Option.bind_none, Nat.reduceAdd, Nat.reduceBEq, Nat.reduceEqDiff, lk_nil, lk_cons, lk_pt1, lk_pt2, lk_pt2b, isJ_i, isJ_r, isJ_l, gI_i, gJ_i, gR_i, Bool.false_eq_true, if_true, if_false, ite_true, ite_false, reduceIte, len4_0, len4_1, len4_2, len4_3, len4_4, Option.toList_some, Option.toList_none, List.cons_append, List.nil_append, gf_o, isO_o, pf_o, List.length_cons, List.length_nil, List.getElem?_cons_zero, List.getElem?_cons_succ, List.set_cons_zero, List.set_cons_succ, va_rf_s, up_self, rdi_a, rdi_5, rdi_0, rdi_4, wri_a, rdl_a, wrl_a, rdr_a, wrr_a, aln_0, aln_1, aln_3, aln_4, aln_5, ofI_1, ofI_m1])
end

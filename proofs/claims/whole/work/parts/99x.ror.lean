/-! a test told: the reference; an or -/
section
variable {n z : Nat} {H : Nat → AC} {g : Int → Int} {k wh : Nat}
theorem m_dropAO (G : Option Rs → Prop) (d : Nat) {b : Nat} : ∀ (V C : List Nat) (op : Nat) (M1 : Me) (l1 : Lo), (∀ x ∈ V, x < 1000) → V.length + C.length < 1690 → QS V.reverse C op b wh M1 → lk l1 0 = some (.ref 218) → (∀ M', QS (11 :: V.dropWhile isAO).reverse (C ++ V.takeWhile isAO) op b wh M' ∧ KB M1 M' ∧ (∀ i, ¬ (i = 92 ∨ i = 94) → M' 218 i = M1 218 i) → G (some (some (.int (jI 1)), (n, z, hp H M')))) → G (Rn (X (d + 2)) 12 (some .boolean) false 1 cX12_qGoesOnTest (137, l1, [], (n, z, hp H M1))) := by
  have last : ∀ (V C : List Nat) (op : Nat) (M1 : Me) (l1 : Lo), V.length < 1690 → X (d + 2) 240 [.ref 218, .int (jI 10)] (n, z, hp H M1) = some (some (.int (jI 0)), (n, z, hp H M1)) → X (d + 2) 240 [.ref 218, .int (jI 11)] (n, z, hp H M1) = some (some (.int (jI 0)), (n, z, hp H M1)) → QS V.reverse C op b wh M1 → lk l1 0 = some (.ref 218) → (∀ M', QS (11 :: V).reverse C op b wh M' ∧ KB M1 M' ∧ (∀ i, ¬ (i = 92 ∨ i = 94) → M' 218 i = M1 218 i) → G (some (some (.int (jI 1)), (n, z, hp H M')))) → G (Rn (X (d + 2)) 12 (some .boolean) false 1 cX12_qGoesOnTest (137, l1, [], (n, z, hp H M1))) := by
    intro V C op M1 l1 hl e1 e3 hQ q0 hG
    have y94 : M1 218 94 = (V.length : Int) := by rw [hQ.1.1, il_len]; simp
    have f : ∀ i v, st M1 289 i v 218 = M1 218 := fun i v => st_ne _ _ _ (by omega)
    have hp2 := QS_push hQ 11
    have kp := KB_push (M := M1) (w := V.length) (s := 11)
    rw [List.length_reverse] at hp2
    have r := hG _ ⟨by rw [List.reverse_cons]; exact hp2, kp.1, fun i hi => kp.2 i (by omega)⟩
    rw [Int.cast_ofNat_Int] at r
    rw [Rm_aload_n (k := 0) rfl dX12_qGoesOnTest_137]
    simp (disch := omega) only [Rn_bipush (v := jI (10)) rfl dX12_qGoesOnTest_138, Rm_inV1 (d := dX12_qGoesOnTest_140) (hy := mo_240) (h13 := rfl) ml_12_637 rfl, Rn_if_ne (t := 155) rfl dX12_qGoesOnTest_143, Rm_aload_n (k := 0) rfl dX12_qGoesOnTest_146, Rn_bipush (v := jI (11)) rfl dX12_qGoesOnTest_147, Rm_inV1 (d := dX12_qGoesOnTest_149) (hy := mo_240) (h13 := rfl) ml_12_637 rfl, Rn_if_eq (t := 162) rfl dX12_qGoesOnTest_152, Rm_aload_n (k := 0) rfl dX12_qGoesOnTest_155, Rm_inV0 (d := dX12_qGoesOnTest_156) (hy := mo_241) (h13 := rfl) ml_12_610 rfl, Rn_goto (t := 137) rfl dX12_qGoesOnTest_159, Rm_aload_n (k := 0) rfl dX12_qGoesOnTest_162, Rm_getfield fl_12_230 dX12_qGoesOnTest_163, Rm_aload_n (k := 0) rfl dX12_qGoesOnTest_166, Rm_getfield fl_12_344 dX12_qGoesOnTest_167, Rn_bipush (v := jI (11)) rfl dX12_qGoesOnTest_170, Rm_iastore dX12_qGoesOnTest_172, Rm_aload_n (k := 0) rfl dX12_qGoesOnTest_173, Rn_dup_int dX12_qGoesOnTest_174, Rn_dup_ref dX12_qGoesOnTest_174, Rm_getfield fl_12_344 dX12_qGoesOnTest_175, Rn_iconst (v := jI (1)) rfl dX12_qGoesOnTest_178, Rn_iadd dX12_qGoesOnTest_179, Rm_putfieldI (ini := false) fl_12_344 rfl rfl dX12_qGoesOnTest_180, Rn_iconst (v := jI (1)) rfl dX12_qGoesOnTest_183, Rn_ireturn (ty := .boolean) rfl dX12_qGoesOnTest_184, gs12_93 k218, rdM k289 l289, wrM k289 l289, alM k289 l289, gs12_94 k218, io12 k218, ps12_94 k218, io12 k218, q0, e1, e3, y94, f, qI_s, qJ_s, qR_s, qV_s, qX_s, qN_s, qW_s, qF_s, qC_s, Option.bind_some, Option.bind_none, Nat.reduceAdd, Nat.reduceBEq, Nat.reduceEqDiff, lk_nil, lk_cons, lk_pt1, lk_pt2i, isJ_i, isJ_r, isJ_l, gI_i, gJ_i, gR_i, Bool.false_eq_true, if_true, if_false, ite_true, ite_false, ↓reduceIte, len4_0, len4_1, len4_2, len4_3, len4_4, Option.toList_some, Option.toList_none, List.cons_append, List.nil_append, va_rf_s, up_hp, ofI_j, jI_add, jI_sub, jI_mul, jI_neg, jL_add, jL_sub, jL_mul, jI_jL, jL_jI, nar_i, nar_zj, lt_t, lt_f, le_t, le_f, eq_t, eq_f, ez_t, ez_f, lz_t, lz_f, gz_t, gz_f, nz_t, nz_f, pz_t, pz_f, lgc_gt, lgc_lt, lgc_ge, lgc_le, lgc_eq, Lt_t, Lt_f, Le_t, Le_f, Eq_t, Eq_f, dv_j, not_true_eq_false, not_false_eq_true, Int.reduceEq, Int.reduceAdd, Int.reduceSub, Int.reduceMul, Int.reduceNeg, Ez_t, Ez_f, dv_L, false_and, true_and, and_true, and_false]
    exact r
  intro V
  induction V with
  | nil =>
    intro C op M1 l1 hV hl hQ q0 hG
    have e1 := m_qIsOn_0 (n := n) (z := z) (H := H) (v := 10) hQ (d + 1)
    have e3 := m_qIsOn_0 (n := n) (z := z) (H := H) (v := 11) hQ (d + 1)
    rw [Int.cast_ofNat_Int] at e1 e3
    exact last [] C op M1 l1 (by simp) e1 e3 hQ q0 (fun M' h => hG M' (by simpa using h))
  | cons x r ih =>
    intro C op M1 l1 hV hl hQ q0 hG
    have hQ' := hQ
    rw [List.reverse_cons] at hQ'
    simp only [List.length_cons] at hl
    have e1 := m_qIsOn_t (n := n) (z := z) (H := H) hQ' (by simp; omega) (hV x (by simp)) (show 10 < 1000 by omega) (d + 1)
    have e3 := m_qIsOn_t (n := n) (z := z) (H := H) hQ' (by simp; omega) (hV x (by simp)) (show 11 < 1000 by omega) (d + 1)
    rw [Int.cast_ofNat_Int] at e1 e3
    by_cases q : x = 10 ∨ x = 11
    · have qm : isAO x = true := by unfold isAO; rw [decide_eq_true_iff]; exact q
      obtain ⟨M2, e2, q2, K2, f2⟩ := m_qDrops (n := n) (z := z) (H := H) hQ' (by simp; omega) (by omega) d
      have hi := ih (C ++ [x]) op M2 l1 (fun y hy => hV y (by simp [hy])) (by simp; omega) q2 q0 (fun M' h => by
        obtain ⟨h1, h2, h3⟩ := h
        refine hG M' ⟨?_, KB_trans K2 h2, fun i hi => (h3 i hi).trans (f2 i hi)⟩
        simp only [List.dropWhile, List.takeWhile, qm]
        rw [List.append_assoc] at h1
        exact h1)
      rw [Rm_aload_n (k := 0) rfl dX12_qGoesOnTest_137]
      rcases q with rfl | rfl
      · rw [if_pos rfl] at e1
        simp (disch := omega) only [Rn_bipush (v := jI (10)) rfl dX12_qGoesOnTest_138, Rm_inV1 (d := dX12_qGoesOnTest_140) (hy := mo_240) (h13 := rfl) ml_12_637 rfl, Rn_if_ne (t := 155) rfl dX12_qGoesOnTest_143, Rm_aload_n (k := 0) rfl dX12_qGoesOnTest_146, Rn_bipush (v := jI (11)) rfl dX12_qGoesOnTest_147, Rm_inV1 (d := dX12_qGoesOnTest_149) (hy := mo_240) (h13 := rfl) ml_12_637 rfl, Rn_if_eq (t := 162) rfl dX12_qGoesOnTest_152, Rm_aload_n (k := 0) rfl dX12_qGoesOnTest_155, Rm_inV0 (d := dX12_qGoesOnTest_156) (hy := mo_241) (h13 := rfl) ml_12_610 rfl, Rn_goto (t := 137) rfl dX12_qGoesOnTest_159, io12 k218, io12 k218, q0, e1, e2, qI_s, qJ_s, qR_s, qV_s, qX_s, qN_s, qW_s, qF_s, qC_s, Option.bind_some, Option.bind_none, Nat.reduceAdd, Nat.reduceBEq, Nat.reduceEqDiff, lk_nil, lk_cons, lk_pt1, lk_pt2i, isJ_i, isJ_r, isJ_l, gI_i, gJ_i, gR_i, Bool.false_eq_true, if_true, if_false, ite_true, ite_false, ↓reduceIte, len4_0, len4_1, len4_2, len4_3, len4_4, Option.toList_some, Option.toList_none, List.cons_append, List.nil_append, va_rf_s, up_hp, ofI_j, jI_add, jI_sub, jI_mul, jI_neg, jL_add, jL_sub, jL_mul, jI_jL, jL_jI, nar_i, nar_zj, lt_t, lt_f, le_t, le_f, eq_t, eq_f, ez_t, ez_f, lz_t, lz_f, gz_t, gz_f, nz_t, nz_f, pz_t, pz_f, lgc_gt, lgc_lt, lgc_ge, lgc_le, lgc_eq, Lt_t, Lt_f, Le_t, Le_f, Eq_t, Eq_f, dv_j, not_true_eq_false, not_false_eq_true, Int.reduceEq, Int.reduceAdd, Int.reduceSub, Int.reduceMul, Int.reduceNeg, Ez_t, Ez_f, dv_L, false_and, true_and, and_true, and_false]
        exact hi
      · rw [if_neg (by omega)] at e1
        rw [if_pos rfl] at e3
        simp (disch := omega) only [Rn_bipush (v := jI (10)) rfl dX12_qGoesOnTest_138, Rm_inV1 (d := dX12_qGoesOnTest_140) (hy := mo_240) (h13 := rfl) ml_12_637 rfl, Rn_if_ne (t := 155) rfl dX12_qGoesOnTest_143, Rm_aload_n (k := 0) rfl dX12_qGoesOnTest_146, Rn_bipush (v := jI (11)) rfl dX12_qGoesOnTest_147, Rm_inV1 (d := dX12_qGoesOnTest_149) (hy := mo_240) (h13 := rfl) ml_12_637 rfl, Rn_if_eq (t := 162) rfl dX12_qGoesOnTest_152, Rm_aload_n (k := 0) rfl dX12_qGoesOnTest_155, Rm_inV0 (d := dX12_qGoesOnTest_156) (hy := mo_241) (h13 := rfl) ml_12_610 rfl, Rn_goto (t := 137) rfl dX12_qGoesOnTest_159, io12 k218, io12 k218, q0, e1, e3, e2, qI_s, qJ_s, qR_s, qV_s, qX_s, qN_s, qW_s, qF_s, qC_s, Option.bind_some, Option.bind_none, Nat.reduceAdd, Nat.reduceBEq, Nat.reduceEqDiff, lk_nil, lk_cons, lk_pt1, lk_pt2i, isJ_i, isJ_r, isJ_l, gI_i, gJ_i, gR_i, Bool.false_eq_true, if_true, if_false, ite_true, ite_false, ↓reduceIte, len4_0, len4_1, len4_2, len4_3, len4_4, Option.toList_some, Option.toList_none, List.cons_append, List.nil_append, va_rf_s, up_hp, ofI_j, jI_add, jI_sub, jI_mul, jI_neg, jL_add, jL_sub, jL_mul, jI_jL, jL_jI, nar_i, nar_zj, lt_t, lt_f, le_t, le_f, eq_t, eq_f, ez_t, ez_f, lz_t, lz_f, gz_t, gz_f, nz_t, nz_f, pz_t, pz_f, lgc_gt, lgc_lt, lgc_ge, lgc_le, lgc_eq, Lt_t, Lt_f, Le_t, Le_f, Eq_t, Eq_f, dv_j, not_true_eq_false, not_false_eq_true, Int.reduceEq, Int.reduceAdd, Int.reduceSub, Int.reduceMul, Int.reduceNeg, Ez_t, Ez_f, dv_L, false_and, true_and, and_true, and_false]
        exact hi
    · rw [if_neg (by omega)] at e1
      rw [if_neg (by omega)] at e3
      have qm : isAO x = false := by unfold isAO; rw [decide_eq_false_iff_not]; exact q
      refine last (x :: r) C op M1 l1 (by simp; omega) e1 e3 hQ q0 (fun M' h => hG M' ?_)
      simp only [List.dropWhile, List.takeWhile, qm, List.append_nil]
      exact h
end

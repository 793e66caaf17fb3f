/-! a test told: the reference; an and -/
section
variable {n z : Nat} {H : Nat → AC} {g : Int → Int} {k wh : Nat}
theorem QS_push {W C : List Nat} {op b : Nat} {M : Me} (hQ : QS W C op b wh M) (s : Nat) : QS (W ++ [s]) C op b wh (st (st M 289 (W.length : Nat) s) 218 94 ((W.length : Nat) + 1)) := by
  obtain ⟨a1, a2, a3, a4, a5⟩ := id hQ
  have y94 : M 218 94 = (W.length : Int) := by rw [a1.1, il_len]
  have f : ∀ i v, st M 289 i v 218 = M 218 := fun i v => st_ne _ _ _ (by omega)
  have hq := LSq_add (w := (s : Int)) (show ¬ 289 = 218 by omega) a1
  rw [y94] at hq
  refine ⟨?_, ?_, ?_, ?_, ?_⟩
  · rw [il_app]; exact hq
  · exact LSq_frame a2 (by rw [st_self, su_ne _ _ (by omega), f]) (by rw [st_ne _ _ _ (by omega), st_ne _ _ _ (by omega)])
  · rw [st_self, su_ne _ _ (by omega), f]; exact a3
  · rw [st_self, su_ne _ _ (by omega), f]; exact a4
  · rw [st_self, su_ne _ _ (by omega), f]; exact a5
theorem KB_push {M : Me} {w : Nat} {s : Nat} : KB M (st (st M 289 (w : Nat) s) 218 94 ((w : Nat) + 1)) ∧ ∀ i, ¬ i = 94 → st (st M 289 (w : Nat) s) 218 94 ((w : Nat) + 1) 218 i = M 218 i := by
  have f : ∀ i v, st M 289 i v 218 = M 218 := fun i v => st_ne _ _ _ (by omega)
  exact ⟨⟨fun b hb => by rw [st_ne _ _ _ (by omega), st_ne _ _ _ (by omega)], fun i hi => by rw [st_self, su_ne _ _ (by omega), f]⟩, fun i hi => by rw [st_self, su_ne _ _ hi, f]⟩
theorem m_dropAn (G : Option Rs → Prop) (d : Nat) {b : Nat} : ∀ (V C : List Nat) (op : Nat) (M1 : Me) (l1 : Lo), (∀ x ∈ V, x < 1000) → V.length + C.length < 1690 → QS V.reverse C op b wh M1 → lk l1 0 = some (.ref 218) → (∀ M', QS (10 :: V.dropWhile isAn).reverse (C ++ V.takeWhile isAn) op b wh M' ∧ KB M1 M' ∧ (∀ i, ¬ (i = 92 ∨ i = 94) → M' 218 i = M1 218 i) → G (some (some (.int (jI 1)), (n, z, hp H M')))) → G (Rn (X (d + 2)) 12 (some .boolean) false 1 cX12_qGoesOnTest (87, l1, [], (n, z, hp H M1))) := by
  have last : ∀ (V C : List Nat) (op : Nat) (M1 : Me) (l1 : Lo), V.length < 1690 → X (d + 2) 240 [.ref 218, .int (jI 10)] (n, z, hp H M1) = some (some (.int (jI 0)), (n, z, hp H M1)) → QS V.reverse C op b wh M1 → lk l1 0 = some (.ref 218) → (∀ M', QS (10 :: V).reverse C op b wh M' ∧ KB M1 M' ∧ (∀ i, ¬ (i = 92 ∨ i = 94) → M' 218 i = M1 218 i) → G (some (some (.int (jI 1)), (n, z, hp H M')))) → G (Rn (X (d + 2)) 12 (some .boolean) false 1 cX12_qGoesOnTest (87, l1, [], (n, z, hp H M1))) := by
    intro V C op M1 l1 hl e1 hQ q0 hG
    have y94 : M1 218 94 = (V.length : Int) := by rw [hQ.1.1, il_len]; simp
    have f : ∀ i v, st M1 289 i v 218 = M1 218 := fun i v => st_ne _ _ _ (by omega)
    have hp2 := QS_push hQ 10
    have kp := KB_push (M := M1) (w := V.length) (s := 10)
    rw [List.length_reverse] at hp2
    have r := hG _ ⟨by rw [List.reverse_cons]; exact hp2, kp.1, fun i hi => kp.2 i (by omega)⟩
    rw [Int.cast_ofNat_Int] at r
    rw [Rm_aload_n (k := 0) rfl dX12_qGoesOnTest_87]
    simp (disch := omega) only [Rn_bipush (v := jI (10)) rfl dX12_qGoesOnTest_88, Rm_inV1 (d := dX12_qGoesOnTest_90) (hy := mo_240) (h13 := rfl) ml_12_637 rfl, Rn_if_eq (t := 103) rfl dX12_qGoesOnTest_93, Rm_aload_n (k := 0) rfl dX12_qGoesOnTest_96, Rm_inV0 (d := dX12_qGoesOnTest_97) (hy := mo_241) (h13 := rfl) ml_12_610 rfl, Rn_goto (t := 87) rfl dX12_qGoesOnTest_100, Rm_aload_n (k := 0) rfl dX12_qGoesOnTest_103, Rm_getfield fl_12_230 dX12_qGoesOnTest_104, Rm_aload_n (k := 0) rfl dX12_qGoesOnTest_107, Rm_getfield fl_12_344 dX12_qGoesOnTest_108, Rn_bipush (v := jI (10)) rfl dX12_qGoesOnTest_111, Rm_iastore dX12_qGoesOnTest_113, Rm_aload_n (k := 0) rfl dX12_qGoesOnTest_114, Rn_dup_int dX12_qGoesOnTest_115, Rn_dup_ref dX12_qGoesOnTest_115, Rm_getfield fl_12_344 dX12_qGoesOnTest_116, Rn_iconst (v := jI (1)) rfl dX12_qGoesOnTest_119, Rn_iadd dX12_qGoesOnTest_120, Rm_putfieldI (ini := false) fl_12_344 rfl rfl dX12_qGoesOnTest_121, Rn_iconst (v := jI (1)) rfl dX12_qGoesOnTest_124, Rn_ireturn (ty := .boolean) rfl dX12_qGoesOnTest_125, gs12_93 k218, rdM k289 l289, wrM k289 l289, alM k289 l289, gs12_94 k218, io12 k218, ps12_94 k218, io12 k218, q0, e1, y94, f, qI_s, qJ_s, qR_s, qV_s, qX_s, qN_s, qW_s, qF_s, qC_s, Option.bind_some, Option.bind_none, Nat.reduceAdd, Nat.reduceBEq, Nat.reduceEqDiff, lk_nil, lk_cons, lk_pt1, lk_pt2i, isJ_i, isJ_r, isJ_l, gI_i, gJ_i, gR_i, Bool.false_eq_true, if_true, if_false, ite_true, ite_false, ↓reduceIte, len4_0, len4_1, len4_2, len4_3, len4_4, Option.toList_some, Option.toList_none, List.cons_append, List.nil_append, va_rf_s, up_hp, ofI_j, jI_add, jI_sub, jI_mul, jI_neg, jL_add, jL_sub, jL_mul, jI_jL, jL_jI, nar_i, nar_zj, lt_t, lt_f, le_t, le_f, eq_t, eq_f, ez_t, ez_f, lz_t, lz_f, gz_t, gz_f, nz_t, nz_f, pz_t, pz_f, lgc_gt, lgc_lt, lgc_ge, lgc_le, lgc_eq, Lt_t, Lt_f, Le_t, Le_f, Eq_t, Eq_f, dv_j, not_true_eq_false, not_false_eq_true, Int.reduceEq, Int.reduceAdd, Int.reduceSub, Int.reduceMul, Int.reduceNeg, Ez_t, Ez_f, dv_L, false_and, true_and, and_true, and_false]
    exact r
  intro V
  induction V with
  | nil =>
    intro C op M1 l1 hV hl hQ q0 hG
    have e1 := m_qIsOn_0 (n := n) (z := z) (H := H) (v := 10) hQ (d + 1)
    rw [Int.cast_ofNat_Int] at e1
    exact last [] C op M1 l1 (by simp) e1 hQ q0 (fun M' h => hG M' (by simpa using h))
  | cons x r ih =>
    intro C op M1 l1 hV hl hQ q0 hG
    have hQ' := hQ
    rw [List.reverse_cons] at hQ'
    simp only [List.length_cons] at hl
    have e1 := m_qIsOn_t (n := n) (z := z) (H := H) hQ' (by simp; omega) (hV x (by simp)) (show 10 < 1000 by omega) (d + 1)
    rw [Int.cast_ofNat_Int] at e1
    by_cases q : x = 10
    · subst q
      rw [if_pos rfl] at e1
      have qm : isAn 10 = true := rfl
      obtain ⟨M2, e2, q2, K2, f2⟩ := m_qDrops (n := n) (z := z) (H := H) hQ' (by simp; omega) (by omega) d
      have hi := ih (C ++ [10]) op M2 l1 (fun y hy => hV y (by simp [hy])) (by simp; omega) q2 q0 (fun M' h => by
        obtain ⟨h1, h2, h3⟩ := h
        refine hG M' ⟨?_, KB_trans K2 h2, fun i hi => (h3 i hi).trans (f2 i hi)⟩
        simp only [List.dropWhile, List.takeWhile, qm]
        rw [List.append_assoc] at h1
        exact h1)
      rw [Rm_aload_n (k := 0) rfl dX12_qGoesOnTest_87]
      simp (disch := omega) only [Rn_bipush (v := jI (10)) rfl dX12_qGoesOnTest_88, Rm_inV1 (d := dX12_qGoesOnTest_90) (hy := mo_240) (h13 := rfl) ml_12_637 rfl, Rn_if_eq (t := 103) rfl dX12_qGoesOnTest_93, Rm_aload_n (k := 0) rfl dX12_qGoesOnTest_96, Rm_inV0 (d := dX12_qGoesOnTest_97) (hy := mo_241) (h13 := rfl) ml_12_610 rfl, Rn_goto (t := 87) rfl dX12_qGoesOnTest_100, io12 k218, io12 k218, q0, e1, e2, qI_s, qJ_s, qR_s, qV_s, qX_s, qN_s, qW_s, qF_s, qC_s, Option.bind_some, Option.bind_none, Nat.reduceAdd, Nat.reduceBEq, Nat.reduceEqDiff, lk_nil, lk_cons, lk_pt1, lk_pt2i, isJ_i, isJ_r, isJ_l, gI_i, gJ_i, gR_i, Bool.false_eq_true, if_true, if_false, ite_true, ite_false, ↓reduceIte, len4_0, len4_1, len4_2, len4_3, len4_4, Option.toList_some, Option.toList_none, List.cons_append, List.nil_append, va_rf_s, up_hp, ofI_j, jI_add, jI_sub, jI_mul, jI_neg, jL_add, jL_sub, jL_mul, jI_jL, jL_jI, nar_i, nar_zj, lt_t, lt_f, le_t, le_f, eq_t, eq_f, ez_t, ez_f, lz_t, lz_f, gz_t, gz_f, nz_t, nz_f, pz_t, pz_f, lgc_gt, lgc_lt, lgc_ge, lgc_le, lgc_eq, Lt_t, Lt_f, Le_t, Le_f, Eq_t, Eq_f, dv_j, not_true_eq_false, not_false_eq_true, Int.reduceEq, Int.reduceAdd, Int.reduceSub, Int.reduceMul, Int.reduceNeg, Ez_t, Ez_f, dv_L, false_and, true_and, and_true, and_false]
      exact hi
    · rw [if_neg q] at e1
      have qm : isAn x = false := by unfold isAn; rw [decide_eq_false_iff_not]; exact q
      refine last (x :: r) C op M1 l1 (by simp; omega) e1 hQ q0 (fun M' h => hG M' ?_)
      simp only [List.dropWhile, List.takeWhile, qm, List.append_nil]
      exact h
end

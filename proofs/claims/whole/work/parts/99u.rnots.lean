/-! a test told: the reference; nots drop -/
/-- nots and squares that wait -/
def cnN : List Nat → Nat
  | [] => 0
  | x :: V => (if x = 12 ∨ x = 25 then 1 else 0) + cnN V
theorem TSt_pos {g : Int → Int} {k wh a : Nat} {c t : Cfg} (h : TSt g k wh a c t) (ht : t.1 = 3 ∨ t.1 = 4) (hc : c.1 < 3) : ∃ a' f, a = a' + 1 ∧ TSt g k wh a' (tst g k wh f c) t := by
  cases a with
  | zero =>
    have e : c = t := h
    rw [e] at hc
    omega
  | succ a =>
    obtain ⟨f, h⟩ := h
    exact ⟨a, f, rfl, h⟩
theorem TSt_term {g : Int → Int} {k wh : Nat} : ∀ {a : Nat} {c t : Cfg}, TSt g k wh a c t → 3 ≤ c.1 → c = t := by
  intro a
  induction a with
  | zero => intro c t h _; exact h
  | succ a ih =>
    intro c t h hc
    obtain ⟨f, h⟩ := h
    have e : tst g k wh f c = c := by
      unfold tst
      dsimp only
      rw [if_neg (by omega), if_neg (by omega), if_neg (by omega)]
    rw [e] at h
    exact ih h hc
section
variable {n z : Nat} {H : Nat → AC} {g : Int → Int} {k wh : Nat}
theorem m_qDropsNots {V C : List Nat} {op b e : Nat} {nb : Bool} {M : Me} (hV : ∀ x ∈ V, x < 1000) (hl : V.length + C.length < 1700) (hop : cnN V ≤ op) (hQ : QS V.reverse C op b wh M) (h5 : M 218 5 = 0) (d : Nat) :
    ∃ M' : Me, X (d + 3) 254 [.ref 218] (n, z, hp H M) = some (none, (n, z, hp H M')) ∧ (∃ (V' C' : List Nat) (op' : Nat), (∀ (a : Nat) (t : Cfg), t.1 = 3 ∨ t.1 = 4 → TSt g k wh a (1, e, nb, op, V, C) t → ∃ a', a' < a ∧ TSt g k wh a' (2, e, nb, op', V', C') t) ∧ cnN V' ≤ op' ∧ op' ≤ op ∧ V'.length + C'.length = V.length + C.length ∧ (∀ x ∈ V', x ∈ V) ∧ QS V'.reverse C' op' b wh M') ∧ KB M M' ∧ ∀ i, ¬ (i = 92 ∨ i = 94 ∨ i = 95) → M' 218 i = M 218 i := by
  refine ex_of fun G hG => ?_
  have key : ∀ (V C : List Nat) (op : Nat) (M1 : Me), (∀ x ∈ V, x < 1000) → V.length + C.length < 1700 → cnN V ≤ op → QS V.reverse C op b wh M1 → M1 218 5 = 0 → ∀ l1, lk l1 0 = some (.ref 218) → (∀ M', ((∃ (V' C' : List Nat) (op' : Nat), (∀ (a : Nat) (t : Cfg), t.1 = 3 ∨ t.1 = 4 → TSt g k wh a (1, e, nb, op, V, C) t → ∃ a', a' < a ∧ TSt g k wh a' (2, e, nb, op', V', C') t) ∧ cnN V' ≤ op' ∧ op' ≤ op ∧ V'.length + C'.length = V.length + C.length ∧ (∀ x ∈ V', x ∈ V) ∧ QS V'.reverse C' op' b wh M') ∧ KB M1 M' ∧ ∀ i, ¬ (i = 92 ∨ i = 94 ∨ i = 95) → M' 218 i = M1 218 i) → G (some (none, (n, z, hp H M')))) → G (Rn (X (d + 2)) 12 none false 1 cX12_qDropsNots (0, l1, [], (n, z, hp H M1))) := by
    intro V
    induction V with
    | nil =>
      intro C op M1 hV hl hop hQ h5 l1 q0 hg
      have e1 := m_qIsOn_0 (n := n) (z := z) (H := H) (v := 12) hQ (d + 1)
      rw [Int.cast_ofNat_Int] at e1
      have r := hg M1 ⟨⟨[], C, op, fun a t ht h => by
        obtain ⟨a', f, rfl, h2⟩ := TSt_pos h ht (by show 1 < 3; omega)
        rw [tst_end (fun x V' h => by cases h)] at h2
        exact ⟨a', by omega, h2⟩, hop, Nat.le_refl _, rfl, fun x hx => hx, hQ⟩, KB_refl _, fun _ _ => rfl⟩
      rw [Rm_aload_n (k := 0) rfl dX12_qDropsNots_0]
      simp (disch := omega) only [Rm_getfield fl_12_242 dX12_qDropsNots_1, Rn_if_ne (t := 33) rfl dX12_qDropsNots_4, Rm_aload_n (k := 0) rfl dX12_qDropsNots_7, Rn_bipush (v := jI (12)) rfl dX12_qDropsNots_8, Rm_inV1 (d := dX12_qDropsNots_10) (hy := mo_240) (h13 := rfl) ml_12_637 rfl, Rn_if_eq (t := 33) rfl dX12_qDropsNots_13, Rm_aload_n (k := 0) rfl dX12_qDropsNots_16, Rn_dup_int dX12_qDropsNots_17, Rn_dup_ref dX12_qDropsNots_17, Rm_getfield fl_12_347 dX12_qDropsNots_18, Rn_iconst (v := jI (1)) rfl dX12_qDropsNots_21, Rn_isub dX12_qDropsNots_22, Rm_putfieldI (ini := false) fl_12_347 rfl rfl dX12_qDropsNots_23, Rm_aload_n (k := 0) rfl dX12_qDropsNots_26, Rm_inV0 (d := dX12_qDropsNots_27) (hy := mo_241) (h13 := rfl) ml_12_610 rfl, Rn_goto (t := 0) rfl dX12_qDropsNots_30, Rn_return rfl dX12_qDropsNots_33, gs12_5 k218, gs12_95 k218, io12 k218, ps12_95 k218, io12 k218, q0, h5, e1, qI_s, qJ_s, qR_s, qV_s, qX_s, qN_s, qW_s, qF_s, qC_s, Option.bind_some, Option.bind_none, Nat.reduceAdd, Nat.reduceBEq, Nat.reduceEqDiff, lk_nil, lk_cons, lk_pt1, lk_pt2i, isJ_i, isJ_r, isJ_l, gI_i, gJ_i, gR_i, Bool.false_eq_true, if_true, if_false, ite_true, ite_false, ↓reduceIte, len4_0, len4_1, len4_2, len4_3, len4_4, Option.toList_some, Option.toList_none, List.cons_append, List.nil_append, va_rf_s, up_hp, ofI_j, jI_add, jI_sub, jI_mul, jI_neg, jL_add, jL_sub, jL_mul, jI_jL, jL_jI, nar_i, nar_zj, lt_t, lt_f, le_t, le_f, eq_t, eq_f, ez_t, ez_f, lz_t, lz_f, gz_t, gz_f, nz_t, nz_f, pz_t, pz_f, lgc_gt, lgc_lt, lgc_ge, lgc_le, lgc_eq, Lt_t, Lt_f, Le_t, Le_f, Eq_t, Eq_f, dv_j, not_true_eq_false, not_false_eq_true, Int.reduceEq, Int.reduceAdd, Int.reduceSub, Int.reduceMul, Int.reduceNeg, Ez_t, Ez_f, dv_L, false_and, true_and, and_true, and_false]
      exact r
    | cons x V ih =>
      intro C op M1 hV hl hop hQ h5 l1 q0 hg
      rw [List.reverse_cons] at hQ
      simp only [List.length_cons] at hl
      have e1 := m_qIsOn_t (n := n) (z := z) (H := H) hQ (by simp; omega) (hV x (by simp)) (show 12 < 1000 by omega) (d + 1)
      rw [Int.cast_ofNat_Int] at e1
      rw [Rm_aload_n (k := 0) rfl dX12_qDropsNots_0]
      by_cases hx : x = 12
      · subst hx
        rw [if_pos rfl] at e1
        have hop' : 1 + cnN V ≤ op := by simpa [cnN] using hop
        have q95 : M1 218 95 = (op : Int) := hQ.2.2.1
        have hQ1 : QS (V.reverse ++ [12]) C (op - 1) b wh (st M1 218 95 ((op : Int) - 1)) := ⟨LSq_frame hQ.1 (by rw [st_self, su_ne _ _ (by omega)]) (st_ne _ _ _ (by omega)), LSq_frame hQ.2.1 (by rw [st_self, su_ne _ _ (by omega)]) (st_ne _ _ _ (by omega)), by rw [st_self, su_self]; omega, by rw [st_self, su_ne _ _ (by omega)]; exact hQ.2.2.2.1, by rw [st_self, su_ne _ _ (by omega)]; exact hQ.2.2.2.2⟩
        obtain ⟨M2, e2, hQ2, K2, f2⟩ := m_qDrops (n := n) (z := z) (H := H) hQ1 (by simp; omega) (by omega) d
        have r := fun l1 q0 => ih (C ++ [12]) (op - 1) M2 (fun y hy => hV y (by simp [hy])) (by simp; omega) (by omega) hQ2 (by rw [f2 5 (by omega), st_self, su_ne _ _ (by omega)]; exact h5) l1 q0 (fun M' h => hg M' (by
          obtain ⟨⟨V', C', op', a1, a2, a3, a4, a5, a6⟩, b1, b2⟩ := h
          refine ⟨⟨V', C', op', fun a t ht h => by
            obtain ⟨a2, f, rfl, h2⟩ := TSt_pos h ht (by show 1 < 3; omega)
            rw [tst_not] at h2
            obtain ⟨a3, h3, h4⟩ := a1 a2 t ht h2
            exact ⟨a3, by omega, h4⟩, a2, by omega, by rw [a4]; simp; omega, fun y hy => by simp [a5 y hy], a6⟩, KB_trans ⟨fun c hc => st_ne _ _ _ (by omega), fun i hi => by rw [st_self, su_ne _ _ (by omega)]⟩ (KB_trans K2 b1), fun i hi => by rw [b2 i hi, f2 i (by omega), st_self, su_ne _ _ (by omega)]⟩))
        simp (disch := omega) only [Rm_getfield fl_12_242 dX12_qDropsNots_1, Rn_if_ne (t := 33) rfl dX12_qDropsNots_4, Rm_aload_n (k := 0) rfl dX12_qDropsNots_7, Rn_bipush (v := jI (12)) rfl dX12_qDropsNots_8, Rm_inV1 (d := dX12_qDropsNots_10) (hy := mo_240) (h13 := rfl) ml_12_637 rfl, Rn_if_eq (t := 33) rfl dX12_qDropsNots_13, Rm_aload_n (k := 0) rfl dX12_qDropsNots_16, Rn_dup_int dX12_qDropsNots_17, Rn_dup_ref dX12_qDropsNots_17, Rm_getfield fl_12_347 dX12_qDropsNots_18, Rn_iconst (v := jI (1)) rfl dX12_qDropsNots_21, Rn_isub dX12_qDropsNots_22, Rm_putfieldI (ini := false) fl_12_347 rfl rfl dX12_qDropsNots_23, Rm_aload_n (k := 0) rfl dX12_qDropsNots_26, Rm_inV0 (d := dX12_qDropsNots_27) (hy := mo_241) (h13 := rfl) ml_12_610 rfl, Rn_goto (t := 0) rfl dX12_qDropsNots_30, gs12_5 k218, gs12_95 k218, io12 k218, ps12_95 k218, io12 k218, q0, h5, e1, q95, e2, qI_s, qJ_s, qR_s, qV_s, qX_s, qN_s, qW_s, qF_s, qC_s, Option.bind_some, Option.bind_none, Nat.reduceAdd, Nat.reduceBEq, Nat.reduceEqDiff, lk_nil, lk_cons, lk_pt1, lk_pt2i, isJ_i, isJ_r, isJ_l, gI_i, gJ_i, gR_i, Bool.false_eq_true, if_true, if_false, ite_true, ite_false, ↓reduceIte, len4_0, len4_1, len4_2, len4_3, len4_4, Option.toList_some, Option.toList_none, List.cons_append, List.nil_append, va_rf_s, up_hp, ofI_j, jI_add, jI_sub, jI_mul, jI_neg, jL_add, jL_sub, jL_mul, jI_jL, jL_jI, nar_i, nar_zj, lt_t, lt_f, le_t, le_f, eq_t, eq_f, ez_t, ez_f, lz_t, lz_f, gz_t, gz_f, nz_t, nz_f, pz_t, pz_f, lgc_gt, lgc_lt, lgc_ge, lgc_le, lgc_eq, Lt_t, Lt_f, Le_t, Le_f, Eq_t, Eq_f, dv_j, not_true_eq_false, not_false_eq_true, Int.reduceEq, Int.reduceAdd, Int.reduceSub, Int.reduceMul, Int.reduceNeg, Ez_t, Ez_f, dv_L, false_and, true_and, and_true, and_false]
        exact r _ q0
      · rw [if_neg hx] at e1
        have r := hg M1 ⟨⟨x :: V, C, op, fun a t ht h => by
          obtain ⟨a', f, rfl, h2⟩ := TSt_pos h ht (by show 1 < 3; omega)
          rw [tst_end (fun y V' h => by cases h; exact hx)] at h2
          exact ⟨a', by omega, h2⟩, hop, Nat.le_refl _, rfl, fun x hx => hx, by rw [List.reverse_cons]; exact hQ⟩, KB_refl _, fun _ _ => rfl⟩
        simp (disch := omega) only [Rm_getfield fl_12_242 dX12_qDropsNots_1, Rn_if_ne (t := 33) rfl dX12_qDropsNots_4, Rm_aload_n (k := 0) rfl dX12_qDropsNots_7, Rn_bipush (v := jI (12)) rfl dX12_qDropsNots_8, Rm_inV1 (d := dX12_qDropsNots_10) (hy := mo_240) (h13 := rfl) ml_12_637 rfl, Rn_if_eq (t := 33) rfl dX12_qDropsNots_13, Rm_aload_n (k := 0) rfl dX12_qDropsNots_16, Rn_dup_int dX12_qDropsNots_17, Rn_dup_ref dX12_qDropsNots_17, Rm_getfield fl_12_347 dX12_qDropsNots_18, Rn_iconst (v := jI (1)) rfl dX12_qDropsNots_21, Rn_isub dX12_qDropsNots_22, Rm_putfieldI (ini := false) fl_12_347 rfl rfl dX12_qDropsNots_23, Rm_aload_n (k := 0) rfl dX12_qDropsNots_26, Rm_inV0 (d := dX12_qDropsNots_27) (hy := mo_241) (h13 := rfl) ml_12_610 rfl, Rn_goto (t := 0) rfl dX12_qDropsNots_30, Rn_return rfl dX12_qDropsNots_33, gs12_5 k218, gs12_95 k218, io12 k218, ps12_95 k218, io12 k218, q0, h5, e1, qI_s, qJ_s, qR_s, qV_s, qX_s, qN_s, qW_s, qF_s, qC_s, Option.bind_some, Option.bind_none, Nat.reduceAdd, Nat.reduceBEq, Nat.reduceEqDiff, lk_nil, lk_cons, lk_pt1, lk_pt2i, isJ_i, isJ_r, isJ_l, gI_i, gJ_i, gR_i, Bool.false_eq_true, if_true, if_false, ite_true, ite_false, ↓reduceIte, len4_0, len4_1, len4_2, len4_3, len4_4, Option.toList_some, Option.toList_none, List.cons_append, List.nil_append, va_rf_s, up_hp, ofI_j, jI_add, jI_sub, jI_mul, jI_neg, jL_add, jL_sub, jL_mul, jI_jL, jL_jI, nar_i, nar_zj, lt_t, lt_f, le_t, le_f, eq_t, eq_f, ez_t, ez_f, lz_t, lz_f, gz_t, gz_f, nz_t, nz_f, pz_t, pz_f, lgc_gt, lgc_lt, lgc_ge, lgc_le, lgc_eq, Lt_t, Lt_f, Le_t, Le_f, Eq_t, Eq_f, dv_j, not_true_eq_false, not_false_eq_true, Int.reduceEq, Int.reduceAdd, Int.reduceSub, Int.reduceMul, Int.reduceNeg, Ez_t, Ez_f, dv_L, false_and, true_and, and_true, and_false]
        exact r
  rw [Xe_X12_qDropsNots]
  exact key V C op M hV hl hop hQ h5 _ (by simp [Option.bind_some, Option.bind_none, Nat.reduceAdd, Nat.reduceBEq, Nat.reduceEqDiff, lk_nil, lk_cons, lk_pt1, lk_pt2, lk_pt2b, isJ_i, isJ_r, isJ_l, gI_i, gJ_i, gR_i, Bool.false_eq_true, if_true, if_false, ite_true, ite_false, reduceIte, len4_0, len4_1, len4_2, len4_3, len4_4, Option.toList_some, Option.toList_none, List.cons_append, List.nil_append, gf_o, isO_o, pf_o, List.length_cons, List.length_nil, List.getElem?_cons_zero, List.getElem?_cons_succ, List.set_cons_zero, List.set_cons_succ, va_rf_s, up_self, rdi_a, rdi_5, rdi_0, rdi_4, wri_a, rdl_a, wrl_a, rdr_a, wrr_a, aln_0, aln_1, aln_3, aln_4, aln_5, ofI_1, ofI_m1]) (fun M' h => hG M' ⟨h.1, h.2.1, h.2.2⟩)
end

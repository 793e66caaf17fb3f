/-! behind a part: the reference -/
section
variable {n z : Nat} {H : Nat → AC} {g : Int → Int} {k wh : Nat} {W0 : List Nat}
theorem brk_dec {V : List Nat} (h : ¬ brk V = 0) : ∃ V', V.dropWhile (fun x => !isBr x) = brk V :: V' ∧ 20 ≤ brk V ∧ brk V ≤ 24 := by
  induction V with
  | nil => exact absurd rfl h
  | cons x r ih =>
    by_cases q : isBr x = true
    · have e : brk (x :: r) = x := by simp [brk, q]
      refine ⟨r, ?_, ?_⟩
      · rw [e]; simp [List.dropWhile, q]
      · rw [e]; unfold isBr at q; rw [decide_eq_true_iff] at q; exact q
    · have q : isBr x = false := by simpa using q
      have e : brk (x :: r) = brk r := by simp [brk, q]
      rw [e] at h ⊢
      obtain ⟨V', h1, h2⟩ := ih h
      exact ⟨V', by simp [List.dropWhile, q, h1], h2⟩
/-- which sign is on top: none of those below the base -/
theorem m_isOnV {M : Me} {V C : List Nat} {op base v : Nat} (hW0 : ∀ x ∈ W0, 10 ≤ x ∧ x < 1000) (hV : ∀ x ∈ V, x < 1000) (hl : W0.length + V.length < 1700) (hv : v < 10) (hQ : QS (W0 ++ V.reverse) C op base wh M) (d : Nat) : X (d + 1) 240 [.ref 218, .int (jI (v : Int))] (n, z, hp H M) = some (some (.int (jI (if V.head? = some v then 1 else 0))), (n, z, hp H M)) := by
  cases V with
  | cons x r =>
    rw [List.reverse_cons, ← List.append_assoc] at hQ
    have := m_qIsOn_t (n := n) (z := z) (H := H) hQ (by simp at hl ⊢; omega) (hV x (by simp)) (show v < 1000 by omega) d
    rw [this]
    simp
  | nil =>
    simp only [List.reverse_nil, List.append_nil] at hQ
    rw [if_neg (by simp)]
    rcases List.eq_nil_or_concat W0 with h | ⟨W1, x, h⟩
    · rw [h] at hQ
      exact m_qIsOn_0 hQ d
    · rw [List.concat_eq_append] at h
      have hx := hW0 x (by rw [h]; simp)
      rw [h] at hQ hl
      have := m_qIsOn_t (n := n) (z := z) (H := H) hQ (by simp at hl; omega) hx.2 (show v < 1000 by omega) d
      rw [this, if_neg (by omega)]
/-- what waits for a sign of products drops, and it waits -/
theorem m_dropMu (hW0 : ∀ x ∈ W0, 10 ≤ x ∧ x < 1000) {s : Nat} (G : Option Rs → Prop) (d : Nat) : ∀ (V C : List Nat) (op : Nat) (M1 : Me) (l1 : Lo), (∀ x ∈ V, x < 1000) → W0.length + V.length + C.length < 1690 → QS (W0 ++ V.reverse) C op W0.length wh M1 → lk l1 0 = some (.ref 218) → lk l1 1 = some (.int (jI (s : Int))) → (∀ M', QS (W0 ++ (s :: V.dropWhile isMu).reverse) (C ++ V.takeWhile isMu) op W0.length wh M' ∧ KB M1 M' ∧ (∀ i, ¬ (i = 92 ∨ i = 94) → M' 218 i = M1 218 i) → G (some (some (.int (jI 1)), (n, z, hp H M')))) → G (Rn (X (d + 2)) 12 (some .boolean) false 2 cX12_qGoesOn (162, l1, [], (n, z, hp H M1))) := by
  intro V
  induction V with
  | nil =>
    intro C op M1 l1 hV hl hQ q0 q1 hG
    have i3 := m_isOnV (n := n) (z := z) (H := H) (v := 3) hW0 hV (by simp at hl ⊢; omega) (by omega) hQ (d + 1)
    have i4 := m_isOnV (n := n) (z := z) (H := H) (v := 4) hW0 hV (by simp at hl ⊢; omega) (by omega) hQ (d + 1)
    rw [if_neg (by simp), Int.cast_ofNat_Int] at i3 i4
    obtain ⟨a1, a2, a3, a4, a5⟩ := id hQ
    have y94 : M1 218 94 = (W0.length : Int) := by rw [a1.1, il_len]; simp
    simp only [List.length_nil, Nat.add_zero] at hl
    have f : ∀ i v, st M1 289 i v 218 = M1 218 := fun i v => st_ne _ _ _ (by omega)
    have hq := LSq_add (w := (s : Int)) (show ¬ 289 = 218 by omega) a1
    rw [y94] at hq
    have r := hG (st (st M1 289 (W0.length : Nat) s) 218 94 ((W0.length : Nat) + 1)) ⟨⟨?_, ?_, ?_, ?_, ?_⟩, ⟨fun b hb => by rw [st_ne _ _ _ (by omega), st_ne _ _ _ (by omega)], fun i hi => by rw [st_self, su_ne _ _ (by omega), f]⟩, fun i hi => by rw [st_self, su_ne _ _ (by omega), f]⟩
    · rw [Rm_aload_n (k := 0) rfl dX12_qGoesOn_162]
      simp (disch := omega) only [Rn_iconst (v := jI (3)) rfl dX12_qGoesOn_163, Rm_inV1 (d := dX12_qGoesOn_164) (hy := mo_240) (h13 := rfl) ml_12_637 rfl, Rn_if_ne (t := 178) rfl dX12_qGoesOn_167, Rm_aload_n (k := 0) rfl dX12_qGoesOn_170, Rn_iconst (v := jI (4)) rfl dX12_qGoesOn_171, Rm_inV1 (d := dX12_qGoesOn_172) (hy := mo_240) (h13 := rfl) ml_12_637 rfl, Rn_if_eq (t := 185) rfl dX12_qGoesOn_175, Rm_aload_n (k := 0) rfl dX12_qGoesOn_178, Rm_inV0 (d := dX12_qGoesOn_179) (hy := mo_241) (h13 := rfl) ml_12_610 rfl, Rn_goto (t := 162) rfl dX12_qGoesOn_182, Rm_aload_n (k := 0) rfl dX12_qGoesOn_185, Rm_getfield fl_12_230 dX12_qGoesOn_186, Rm_aload_n (k := 0) rfl dX12_qGoesOn_189, Rm_getfield fl_12_344 dX12_qGoesOn_190, Rm_iload_n (k := 1) rfl dX12_qGoesOn_193, Rm_iastore dX12_qGoesOn_194, Rm_aload_n (k := 0) rfl dX12_qGoesOn_195, Rn_dup_int dX12_qGoesOn_196, Rn_dup_ref dX12_qGoesOn_196, Rm_getfield fl_12_344 dX12_qGoesOn_197, Rn_iconst (v := jI (1)) rfl dX12_qGoesOn_200, Rn_iadd dX12_qGoesOn_201, Rm_putfieldI (ini := false) fl_12_344 rfl rfl dX12_qGoesOn_202, Rn_iconst (v := jI (1)) rfl dX12_qGoesOn_205, Rn_ireturn (ty := .boolean) rfl dX12_qGoesOn_206, gs12_93 k218, rdM k289 l289, wrM k289 l289, alM k289 l289, gs12_94 k218, io12 k218, ps12_94 k218, io12 k218, q0, q1, i3, i4, y94, f, qI_s, qJ_s, qR_s, qV_s, qX_s, qN_s, qW_s, qF_s, qC_s, Option.bind_some, Option.bind_none, Nat.reduceAdd, Nat.reduceBEq, Nat.reduceEqDiff, lk_nil, lk_cons, lk_pt1, lk_pt2i, isJ_i, isJ_r, isJ_l, gI_i, gJ_i, gR_i, Bool.false_eq_true, if_true, if_false, ite_true, ite_false, ↓reduceIte, len4_0, len4_1, len4_2, len4_3, len4_4, Option.toList_some, Option.toList_none, List.cons_append, List.nil_append, va_rf_s, up_hp, ofI_j, jI_add, jI_sub, jI_mul, jI_neg, jL_add, jL_sub, jL_mul, jI_jL, jL_jI, nar_i, nar_zj, lt_t, lt_f, le_t, le_f, eq_t, eq_f, ez_t, ez_f, lz_t, lz_f, gz_t, gz_f, nz_t, nz_f, pz_t, pz_f, lgc_gt, lgc_lt, lgc_ge, lgc_le, lgc_eq, Lt_t, Lt_f, Le_t, Le_f, Eq_t, Eq_f, dv_j, not_true_eq_false, not_false_eq_true, Int.reduceEq, Int.reduceAdd, Int.reduceSub, Int.reduceMul, Int.reduceNeg, Ez_t, Ez_f, dv_L, false_and, true_and, and_true, and_false]
      exact r
    · have e : il (W0 ++ (s :: ([] : List Nat).dropWhile isMu).reverse) = il (W0 ++ ([] : List Nat).reverse) ++ [(s : Int)] := by simp [il]
      rw [e]
      exact hq
    · simp only [List.takeWhile_nil, List.append_nil]
      exact LSq_frame a2 (by rw [st_self, su_ne _ _ (by omega), f]) (by rw [st_ne _ _ _ (by omega), st_ne _ _ _ (by omega)])
    · rw [st_self, su_ne _ _ (by omega), f]; exact a3
    · rw [st_self, su_ne _ _ (by omega), f]; exact a4
    · rw [st_self, su_ne _ _ (by omega), f]; exact a5
  | cons x r ih =>
    intro C op M1 l1 hV hl hQ q0 q1 hG
    have i3 := m_isOnV (n := n) (z := z) (H := H) (v := 3) hW0 hV (by omega) (by omega) hQ (d + 1)
    have i4 := m_isOnV (n := n) (z := z) (H := H) (v := 4) hW0 hV (by omega) (by omega) hQ (d + 1)
    rw [Int.cast_ofNat_Int] at i3 i4
    simp only [List.head?_cons, Option.some.injEq] at i3 i4
    have hx := hV x (by simp)
    simp only [List.length_cons] at hl
    by_cases q : x = 3 ∨ x = 4
    · have qm : isMu x = true := by unfold isMu; rw [decide_eq_true_iff]; exact q
      have hQ' := hQ
      rw [List.reverse_cons, ← List.append_assoc] at hQ'
      obtain ⟨M2, e2, q2, K2, f2⟩ := m_qDrops (n := n) (z := z) (H := H) hQ' (by simp; omega) (by omega) d
      have hi := ih (C ++ [x]) op M2 l1 (fun y hy => hV y (by simp [hy])) (by simp; omega) q2 q0 q1 (fun M' h => by
        obtain ⟨h1, h2, h3⟩ := h
        refine hG M' ⟨?_, KB_trans K2 h2, fun i hi => (h3 i hi).trans (f2 i hi)⟩
        simp only [List.dropWhile, List.takeWhile, qm]
        simpa [List.append_assoc] using h1)
      rw [Rm_aload_n (k := 0) rfl dX12_qGoesOn_162]
      rcases q with h | h
      · rw [if_pos h] at i3
        simp (disch := omega) only [Rn_iconst (v := jI (3)) rfl dX12_qGoesOn_163, Rm_inV1 (d := dX12_qGoesOn_164) (hy := mo_240) (h13 := rfl) ml_12_637 rfl, Rn_if_ne (t := 178) rfl dX12_qGoesOn_167, Rm_aload_n (k := 0) rfl dX12_qGoesOn_170, Rn_iconst (v := jI (4)) rfl dX12_qGoesOn_171, Rm_inV1 (d := dX12_qGoesOn_172) (hy := mo_240) (h13 := rfl) ml_12_637 rfl, Rn_if_eq (t := 185) rfl dX12_qGoesOn_175, Rm_aload_n (k := 0) rfl dX12_qGoesOn_178, Rm_inV0 (d := dX12_qGoesOn_179) (hy := mo_241) (h13 := rfl) ml_12_610 rfl, Rn_goto (t := 162) rfl dX12_qGoesOn_182, io12 k218, io12 k218, q0, q1, i3, e2, qI_s, qJ_s, qR_s, qV_s, qX_s, qN_s, qW_s, qF_s, qC_s, Option.bind_some, Option.bind_none, Nat.reduceAdd, Nat.reduceBEq, Nat.reduceEqDiff, lk_nil, lk_cons, lk_pt1, lk_pt2i, isJ_i, isJ_r, isJ_l, gI_i, gJ_i, gR_i, Bool.false_eq_true, if_true, if_false, ite_true, ite_false, ↓reduceIte, len4_0, len4_1, len4_2, len4_3, len4_4, Option.toList_some, Option.toList_none, List.cons_append, List.nil_append, va_rf_s, up_hp, ofI_j, jI_add, jI_sub, jI_mul, jI_neg, jL_add, jL_sub, jL_mul, jI_jL, jL_jI, nar_i, nar_zj, lt_t, lt_f, le_t, le_f, eq_t, eq_f, ez_t, ez_f, lz_t, lz_f, gz_t, gz_f, nz_t, nz_f, pz_t, pz_f, lgc_gt, lgc_lt, lgc_ge, lgc_le, lgc_eq, Lt_t, Lt_f, Le_t, Le_f, Eq_t, Eq_f, dv_j, not_true_eq_false, not_false_eq_true, Int.reduceEq, Int.reduceAdd, Int.reduceSub, Int.reduceMul, Int.reduceNeg, Ez_t, Ez_f, dv_L, false_and, true_and, and_true, and_false]
        exact hi
      · rw [if_neg (by omega)] at i3
        rw [if_pos h] at i4
        simp (disch := omega) only [Rn_iconst (v := jI (3)) rfl dX12_qGoesOn_163, Rm_inV1 (d := dX12_qGoesOn_164) (hy := mo_240) (h13 := rfl) ml_12_637 rfl, Rn_if_ne (t := 178) rfl dX12_qGoesOn_167, Rm_aload_n (k := 0) rfl dX12_qGoesOn_170, Rn_iconst (v := jI (4)) rfl dX12_qGoesOn_171, Rm_inV1 (d := dX12_qGoesOn_172) (hy := mo_240) (h13 := rfl) ml_12_637 rfl, Rn_if_eq (t := 185) rfl dX12_qGoesOn_175, Rm_aload_n (k := 0) rfl dX12_qGoesOn_178, Rm_inV0 (d := dX12_qGoesOn_179) (hy := mo_241) (h13 := rfl) ml_12_610 rfl, Rn_goto (t := 162) rfl dX12_qGoesOn_182, io12 k218, io12 k218, q0, q1, i3, i4, e2, qI_s, qJ_s, qR_s, qV_s, qX_s, qN_s, qW_s, qF_s, qC_s, Option.bind_some, Option.bind_none, Nat.reduceAdd, Nat.reduceBEq, Nat.reduceEqDiff, lk_nil, lk_cons, lk_pt1, lk_pt2i, isJ_i, isJ_r, isJ_l, gI_i, gJ_i, gR_i, Bool.false_eq_true, if_true, if_false, ite_true, ite_false, ↓reduceIte, len4_0, len4_1, len4_2, len4_3, len4_4, Option.toList_some, Option.toList_none, List.cons_append, List.nil_append, va_rf_s, up_hp, ofI_j, jI_add, jI_sub, jI_mul, jI_neg, jL_add, jL_sub, jL_mul, jI_jL, jL_jI, nar_i, nar_zj, lt_t, lt_f, le_t, le_f, eq_t, eq_f, ez_t, ez_f, lz_t, lz_f, gz_t, gz_f, nz_t, nz_f, pz_t, pz_f, lgc_gt, lgc_lt, lgc_ge, lgc_le, lgc_eq, Lt_t, Lt_f, Le_t, Le_f, Eq_t, Eq_f, dv_j, not_true_eq_false, not_false_eq_true, Int.reduceEq, Int.reduceAdd, Int.reduceSub, Int.reduceMul, Int.reduceNeg, Ez_t, Ez_f, dv_L, false_and, true_and, and_true, and_false]
        exact hi
    · have qm : isMu x = false := by unfold isMu; rw [decide_eq_false_iff_not]; exact q
      rw [if_neg (by omega)] at i3 i4
      obtain ⟨a1, a2, a3, a4, a5⟩ := id hQ
      have y94 : M1 218 94 = ((W0.length + r.length + 1 : Nat) : Int) := by rw [a1.1, il_len]; simp; omega
      have f : ∀ i v, st M1 289 i v 218 = M1 218 := fun i v => st_ne _ _ _ (by omega)
      have hq := LSq_add (w := (s : Int)) (show ¬ 289 = 218 by omega) a1
      rw [y94] at hq
      have r0 := hG (st (st M1 289 ((W0.length + r.length + 1 : Nat) : Int) s) 218 94 (((W0.length + r.length + 1 : Nat) : Int) + 1)) ⟨⟨?_, ?_, ?_, ?_, ?_⟩, ⟨fun b hb => by rw [st_ne _ _ _ (by omega), st_ne _ _ _ (by omega)], fun i hi => by rw [st_self, su_ne _ _ (by omega), f]⟩, fun i hi => by rw [st_self, su_ne _ _ (by omega), f]⟩
      · rw [Rm_aload_n (k := 0) rfl dX12_qGoesOn_162]
        simp (disch := omega) only [Rn_iconst (v := jI (3)) rfl dX12_qGoesOn_163, Rm_inV1 (d := dX12_qGoesOn_164) (hy := mo_240) (h13 := rfl) ml_12_637 rfl, Rn_if_ne (t := 178) rfl dX12_qGoesOn_167, Rm_aload_n (k := 0) rfl dX12_qGoesOn_170, Rn_iconst (v := jI (4)) rfl dX12_qGoesOn_171, Rm_inV1 (d := dX12_qGoesOn_172) (hy := mo_240) (h13 := rfl) ml_12_637 rfl, Rn_if_eq (t := 185) rfl dX12_qGoesOn_175, Rm_aload_n (k := 0) rfl dX12_qGoesOn_178, Rm_inV0 (d := dX12_qGoesOn_179) (hy := mo_241) (h13 := rfl) ml_12_610 rfl, Rn_goto (t := 162) rfl dX12_qGoesOn_182, Rm_aload_n (k := 0) rfl dX12_qGoesOn_185, Rm_getfield fl_12_230 dX12_qGoesOn_186, Rm_aload_n (k := 0) rfl dX12_qGoesOn_189, Rm_getfield fl_12_344 dX12_qGoesOn_190, Rm_iload_n (k := 1) rfl dX12_qGoesOn_193, Rm_iastore dX12_qGoesOn_194, Rm_aload_n (k := 0) rfl dX12_qGoesOn_195, Rn_dup_int dX12_qGoesOn_196, Rn_dup_ref dX12_qGoesOn_196, Rm_getfield fl_12_344 dX12_qGoesOn_197, Rn_iconst (v := jI (1)) rfl dX12_qGoesOn_200, Rn_iadd dX12_qGoesOn_201, Rm_putfieldI (ini := false) fl_12_344 rfl rfl dX12_qGoesOn_202, Rn_iconst (v := jI (1)) rfl dX12_qGoesOn_205, Rn_ireturn (ty := .boolean) rfl dX12_qGoesOn_206, gs12_93 k218, rdM k289 l289, wrM k289 l289, alM k289 l289, gs12_94 k218, io12 k218, ps12_94 k218, io12 k218, q0, q1, i3, i4, y94, f, qI_s, qJ_s, qR_s, qV_s, qX_s, qN_s, qW_s, qF_s, qC_s, Option.bind_some, Option.bind_none, Nat.reduceAdd, Nat.reduceBEq, Nat.reduceEqDiff, lk_nil, lk_cons, lk_pt1, lk_pt2i, isJ_i, isJ_r, isJ_l, gI_i, gJ_i, gR_i, Bool.false_eq_true, if_true, if_false, ite_true, ite_false, ↓reduceIte, len4_0, len4_1, len4_2, len4_3, len4_4, Option.toList_some, Option.toList_none, List.cons_append, List.nil_append, va_rf_s, up_hp, ofI_j, jI_add, jI_sub, jI_mul, jI_neg, jL_add, jL_sub, jL_mul, jI_jL, jL_jI, nar_i, nar_zj, lt_t, lt_f, le_t, le_f, eq_t, eq_f, ez_t, ez_f, lz_t, lz_f, gz_t, gz_f, nz_t, nz_f, pz_t, pz_f, lgc_gt, lgc_lt, lgc_ge, lgc_le, lgc_eq, Lt_t, Lt_f, Le_t, Le_f, Eq_t, Eq_f, dv_j, not_true_eq_false, not_false_eq_true, Int.reduceEq, Int.reduceAdd, Int.reduceSub, Int.reduceMul, Int.reduceNeg, Ez_t, Ez_f, dv_L, false_and, true_and, and_true, and_false]
        exact r0
      · have e : il (W0 ++ (s :: (x :: r).dropWhile isMu).reverse) = il (W0 ++ (x :: r).reverse) ++ [(s : Int)] := by simp [il, List.dropWhile, qm]
        rw [e]
        exact hq
      · simp only [List.takeWhile, qm, List.append_nil]
        exact LSq_frame a2 (by rw [st_self, su_ne _ _ (by omega), f]) (by rw [st_ne _ _ _ (by omega), st_ne _ _ _ (by omega)])
      · rw [st_self, su_ne _ _ (by omega), f]; exact a3
      · rw [st_self, su_ne _ _ (by omega), f]; exact a4
      · rw [st_self, su_ne _ _ (by omega), f]; exact a5
end

/-! the Reader's small methods -/
noncomputable def wdF (g : Int → Int) (p q : Nat) : Int := @dite _ (∃ w, w < 37 ∧ isW g p q w) (Classical.propDecidable _) (fun h => ((Classical.choose h : Nat) : Int)) (fun _ => -1)
theorem wdF_WN (g : Int → Int) (p q : Nat) : WN g p q (wdF g p q) := by
  by_cases h : ∃ w, w < 37 ∧ isW g p q w
  · refine Or.inl ⟨Classical.choose h, (Classical.choose_spec h).1, (Classical.choose_spec h).2, ?_⟩
    unfold wdF
    rw [dif_pos h]
  · refine Or.inr ⟨?_, fun w hw q => h ⟨w, hw, q⟩⟩
    unfold wdF
    rw [dif_neg h]
/-- the number of the word behind e; -1: none -/
noncomputable def tkW (g : Int → Int) (k e : Nat) : Int := if tkK g k e = 1 then wdF g (skp g k e) (tkQ g k e) else -1
theorem tkW_rng (g : Int → Int) (k e : Nat) : -1 ≤ tkW g k e ∧ tkW g k e < 37 := by
  unfold tkW
  split
  · rcases wdF_WN g (skp g k e) (tkQ g k e) with ⟨w, h, -, e⟩ | ⟨e, -⟩ <;> omega
  · omega
def isWd (g : Int → Int) (k e : Nat) (nb : Bool) (w : Int) : Prop := tkJ g k e nb = 1 ∧ tkW g k e = w
def isSg (g : Int → Int) (k e : Nat) (c : Int) : Prop := tkK g k e = 3 ∧ vaF g k e = c
def nxB (g : Int → Int) (k e : Nat) (nb : Bool) : Bool := decide (tkJ g k e nb = 1 ∨ tkJ g k e nb = 2)
theorem tkJ_3 {g : Int → Int} {k e : Nat} {nb : Bool} : tkJ g k e nb = 3 ↔ tkK g k e = 3 := by
  unfold tkJ
  split <;> omega
theorem tkJ_0 {g : Int → Int} {k e : Nat} {nb : Bool} : tkJ g k e nb = 0 ↔ tkK g k e = 0 := by
  unfold tkJ
  split <;> omega
theorem tkJ_le (g : Int → Int) (k e : Nat) (nb : Bool) : tkJ g k e nb ≤ 4 := by
  have := tkK_le g k e
  unfold tkJ
  split <;> omega
theorem tkJ_K {g : Int → Int} {k e : Nat} {nb : Bool} (h : ¬ tkJ g k e nb = 4) : tkJ g k e nb = tkK g k e := by
  unfold tkJ at *
  split
  · rename_i q; rw [if_pos q] at h; omega
  · rfl
theorem TK_W {g : Int → Int} {k e : Nat} {nb : Bool} {M : Me} (h : TK g k e nb M) : M 11 5 = tkW g k e := by
  obtain ⟨-, -, -, -, -, h5, h6, -⟩ := h
  unfold tkW
  by_cases q : tkK g k e = 1
  · rw [if_pos q]
    exact WN_uniq (h5 q) (wdF_WN _ _ _)
  · rw [if_neg q]
    exact h6.1 q
theorem kd0_8 {c : Nat} (h : kd c = 0) : 13 ≤ c := by
  have q : ∀ i, i < 13 → ¬ kd i = 0 := by decide +kernel
  rcases Nat.lt_or_ge c 13 with g | g
  · exact absurd h (q c g)
  · exact g
/-- what reading may change besides codes -/
def KG1 (M M' : Me) : Prop := (∀ b, ¬ b = 11 → M' b = M b) ∧ ∀ i, ¬ (2 ≤ i ∧ i ≤ 8) → M' 11 i = M 11 i
theorem KG1_refl (M : Me) : KG1 M M := ⟨fun _ _ => rfl, fun _ _ => rfl⟩
theorem KG1_trans {M M' M'' : Me} (h : KG1 M M') (h' : KG1 M' M'') : KG1 M M'' := ⟨fun b hb => (h'.1 b hb).trans (h.1 b hb), fun i hi => (h'.2 i hi).trans (h.2 i hi)⟩
theorem KG1_n {M M' : Me} (h : KN M M') : KG1 M M' := ⟨h.1, fun i hi => h.2 i (by omega)⟩
def wrM1 (M : Me) (a p : Int) : Me := st (st M 11 7 a) 11 8 p
theorem KG1_w (M : Me) (a p : Int) : KG1 M (wrM1 M a p) := by
  unfold wrM1
  exact ⟨fun b hb => by rw [st_ne _ _ _ hb, st_ne _ _ _ hb], fun i hi => by rw [st_self, su_ne _ _ (by omega), st_self, su_ne _ _ (by omega)]⟩
theorem wrM1_7 (M : Me) (a p : Int) : wrM1 M a p 11 7 = a := by unfold wrM1; rw [st_self, su_ne _ _ (by omega), st_self, su_self]
theorem wrM1_8 (M : Me) (a p : Int) : wrM1 M a p 11 8 = p := by unfold wrM1; rw [st_self, su_self]
section
variable {n z : Nat} {H : Nat → AC} {M : Me} {g : Int → Int} {k e : Nat} {nb : Bool}
theorem vaF_rng (hb : Byt g k) (he : e ≤ k) : -1000000 ≤ vaF g k e ∧ vaF g k e < 2147483648 := by
  obtain ⟨s1, s2, s3, s4⟩ := skp_prop (g := g) he
  obtain ⟨t1, t2, t3⟩ := tkQ_prop (g := g) he
  have k0 := tkK_0 (g := g) (k := k) (e := e)
  unfold vaF
  by_cases q1 : tkK g k e = 1
  · rw [if_pos q1]
    obtain ⟨t4, t5, -⟩ := t3 (by omega)
    have hl := lt_let (g := g) (p := skp g k e) (m := min 6 (tkQ g k e - skp g k e)) (fun i h1 h2 => sort_1 (by rw [t5 i h1 (by omega), q1]))
    have a := pkC_lt _ (fun c hc => (hl c hc).2)
    rw [ltL_len] at a
    have b : ∀ n, n ≤ 6 → 32 ^ n ≤ 1073741824 := by decide
    have := b (min 6 (tkQ g k e - skp g k e)) (by omega)
    omega
  · rw [if_neg q1]
    by_cases q2 : tkK g k e = 2
    · rw [if_pos q2]
      obtain ⟨t4, t5, -⟩ := t3 (by omega)
      have a := dgV_rng (g := g) (p := skp g k e) (m := min 4 (tkQ g k e - skp g k e)) (by omega) (fun i h1 h2 => sort_2 (by rw [t5 i h1 (by omega), q2]))
      have b : ∀ n, n ≤ 4 → (10 : Int) ^ n ≤ 10000 := by decide
      have := b (min 4 (tkQ g k e - skp g k e)) (by omega)
      omega
    · rw [if_neg q2]
      by_cases q3 : tkK g k e = 3
      · rw [if_pos q3]
        have := hb (skp g k e) (by omega) (by omega)
        omega
      · rw [if_neg q3]
        omega
set_option maxHeartbeats 1000000 in
theorem s_isWord_t (hT : TK g k e nb M) {w : Int} (w0 : 0 ≤ w) (w1 : w < 100) (h : isWd g k e nb w) (d : Nat) : X (d + 1) 49 [.ref 11, .int (jI w)] (n, z, hp H M) = some (some (.int (jI 1)), (n, z, hp H M)) := by
  have y3 : M 11 3 = 1 := by rw [hT.2.2.2.1, h.1]; rfl
  have y5 : M 11 5 = w := by rw [TK_W hT, h.2]
  rw [Xe_X6_isWord]
  simp (disch := omega) only [Rm_aload_n (k := 0) rfl dX6_isWord_0, Rm_getfield fl_6_22 dX6_isWord_1, Rn_iconst (v := jI (1)) rfl dX6_isWord_4, Rn_icmp_ne (t := 20) rfl dX6_isWord_5, Rm_aload_n (k := 0) rfl dX6_isWord_8, Rm_getfield fl_6_28 dX6_isWord_9, Rm_iload_n (k := 1) rfl dX6_isWord_12, Rn_icmp_ne (t := 20) rfl dX6_isWord_13, Rn_iconst (v := jI (1)) rfl dX6_isWord_16, Rn_goto (t := 21) rfl dX6_isWord_17, Rn_iconst (v := jI (0)) rfl dX6_isWord_20, Rn_ireturn (ty := .boolean) rfl dX6_isWord_21, gs6_3 k11, gs6_5 k11, y3, y5, qI_s, qJ_s, qR_s, qV_s, qX_s, qN_s, qW_s, qF_s, qC_s, Option.bind_some, Option.bind_none, Nat.reduceAdd, Nat.reduceBEq, Nat.reduceEqDiff, lk_nil, lk_cons, lk_pt1, lk_pt2i, isJ_i, isJ_r, isJ_l, gI_i, gJ_i, gR_i, Bool.false_eq_true, if_true, if_false, ite_true, ite_false, ↓reduceIte, len4_0, len4_1, len4_2, len4_3, len4_4, Option.toList_some, Option.toList_none, List.cons_append, List.nil_append, va_rf_s, up_hp, ofI_j, jI_add, jI_sub, jI_mul, jI_neg, jL_add, jL_sub, jL_mul, jI_jL, jL_jI, nar_i, nar_zj, lt_t, lt_f, le_t, le_f, eq_t, eq_f, ez_t, ez_f, lz_t, lz_f, gz_t, gz_f, nz_t, nz_f, pz_t, pz_f, lgc_gt, lgc_lt, lgc_ge, lgc_le, lgc_eq, Lt_t, Lt_f, Le_t, Le_f, Eq_t, Eq_f, dv_j, not_true_eq_false, not_false_eq_true, Int.reduceEq, Int.reduceAdd, Int.reduceSub, Int.reduceMul, Int.reduceNeg, Ez_t, Ez_f, dv_L, false_and, true_and, and_true, and_false]
set_option maxHeartbeats 1000000 in
theorem s_isWord_f (hT : TK g k e nb M) {w : Int} (w0 : 0 ≤ w) (w1 : w < 100) (h : ¬ isWd g k e nb w) (d : Nat) : X (d + 1) 49 [.ref 11, .int (jI w)] (n, z, hp H M) = some (some (.int (jI 0)), (n, z, hp H M)) := by
  have y3 : M 11 3 = tkJ g k e nb := hT.2.2.2.1
  have y5 : M 11 5 = tkW g k e := TK_W hT
  have r := tkW_rng g k e
  have rj := tkJ_le g k e nb
  rw [Xe_X6_isWord]
  by_cases q : tkJ g k e nb = 1
  · have q2 : ¬ tkW g k e = w := fun h' => h ⟨q, h'⟩
    rw [q] at y3
    simp (disch := omega) only [Rm_aload_n (k := 0) rfl dX6_isWord_0, Rm_getfield fl_6_22 dX6_isWord_1, Rn_iconst (v := jI (1)) rfl dX6_isWord_4, Rn_icmp_ne (t := 20) rfl dX6_isWord_5, Rm_aload_n (k := 0) rfl dX6_isWord_8, Rm_getfield fl_6_28 dX6_isWord_9, Rm_iload_n (k := 1) rfl dX6_isWord_12, Rn_icmp_ne (t := 20) rfl dX6_isWord_13, Rn_iconst (v := jI (1)) rfl dX6_isWord_16, Rn_goto (t := 21) rfl dX6_isWord_17, Rn_iconst (v := jI (0)) rfl dX6_isWord_20, Rn_ireturn (ty := .boolean) rfl dX6_isWord_21, gs6_3 k11, gs6_5 k11, y3, y5, Int.cast_ofNat_Int, qI_s, qJ_s, qR_s, qV_s, qX_s, qN_s, qW_s, qF_s, qC_s, Option.bind_some, Option.bind_none, Nat.reduceAdd, Nat.reduceBEq, Nat.reduceEqDiff, lk_nil, lk_cons, lk_pt1, lk_pt2i, isJ_i, isJ_r, isJ_l, gI_i, gJ_i, gR_i, Bool.false_eq_true, if_true, if_false, ite_true, ite_false, ↓reduceIte, len4_0, len4_1, len4_2, len4_3, len4_4, Option.toList_some, Option.toList_none, List.cons_append, List.nil_append, va_rf_s, up_hp, ofI_j, jI_add, jI_sub, jI_mul, jI_neg, jL_add, jL_sub, jL_mul, jI_jL, jL_jI, nar_i, nar_zj, lt_t, lt_f, le_t, le_f, eq_t, eq_f, ez_t, ez_f, lz_t, lz_f, gz_t, gz_f, nz_t, nz_f, pz_t, pz_f, lgc_gt, lgc_lt, lgc_ge, lgc_le, lgc_eq, Lt_t, Lt_f, Le_t, Le_f, Eq_t, Eq_f, dv_j, not_true_eq_false, not_false_eq_true, Int.reduceEq, Int.reduceAdd, Int.reduceSub, Int.reduceMul, Int.reduceNeg, Ez_t, Ez_f, dv_L, false_and, true_and, and_true, and_false]
  · simp (disch := omega) only [Rm_aload_n (k := 0) rfl dX6_isWord_0, Rm_getfield fl_6_22 dX6_isWord_1, Rn_iconst (v := jI (1)) rfl dX6_isWord_4, Rn_icmp_ne (t := 20) rfl dX6_isWord_5, Rm_aload_n (k := 0) rfl dX6_isWord_8, Rm_getfield fl_6_28 dX6_isWord_9, Rm_iload_n (k := 1) rfl dX6_isWord_12, Rn_icmp_ne (t := 20) rfl dX6_isWord_13, Rn_iconst (v := jI (1)) rfl dX6_isWord_16, Rn_goto (t := 21) rfl dX6_isWord_17, Rn_iconst (v := jI (0)) rfl dX6_isWord_20, Rn_ireturn (ty := .boolean) rfl dX6_isWord_21, gs6_3 k11, gs6_5 k11, y3, qI_s, qJ_s, qR_s, qV_s, qX_s, qN_s, qW_s, qF_s, qC_s, Option.bind_some, Option.bind_none, Nat.reduceAdd, Nat.reduceBEq, Nat.reduceEqDiff, lk_nil, lk_cons, lk_pt1, lk_pt2i, isJ_i, isJ_r, isJ_l, gI_i, gJ_i, gR_i, Bool.false_eq_true, if_true, if_false, ite_true, ite_false, ↓reduceIte, len4_0, len4_1, len4_2, len4_3, len4_4, Option.toList_some, Option.toList_none, List.cons_append, List.nil_append, va_rf_s, up_hp, ofI_j, jI_add, jI_sub, jI_mul, jI_neg, jL_add, jL_sub, jL_mul, jI_jL, jL_jI, nar_i, nar_zj, lt_t, lt_f, le_t, le_f, eq_t, eq_f, ez_t, ez_f, lz_t, lz_f, gz_t, gz_f, nz_t, nz_f, pz_t, pz_f, lgc_gt, lgc_lt, lgc_ge, lgc_le, lgc_eq, Lt_t, Lt_f, Le_t, Le_f, Eq_t, Eq_f, dv_j, not_true_eq_false, not_false_eq_true, Int.reduceEq, Int.reduceAdd, Int.reduceSub, Int.reduceMul, Int.reduceNeg, Ez_t, Ez_f, dv_L, false_and, true_and, and_true, and_false]
set_option maxHeartbeats 1000000 in
theorem s_isSign_t (hT : TK g k e nb M) {w : Int} (w0 : 0 ≤ w) (w1 : w < 256) (h : isSg g k e w) (d : Nat) : X (d + 1) 50 [.ref 11, .int (jI w)] (n, z, hp H M) = some (some (.int (jI 1)), (n, z, hp H M)) := by
  have y3 : M 11 3 = 3 := by rw [hT.2.2.2.1, tkJ_3.mpr h.1]; rfl
  have y6 : M 11 6 = w := by rw [hT.2.2.2.2.2.2.2, h.2]
  rw [Xe_X6_isSign]
  simp (disch := omega) only [Rm_aload_n (k := 0) rfl dX6_isSign_0, Rm_getfield fl_6_22 dX6_isSign_1, Rn_iconst (v := jI (3)) rfl dX6_isSign_4, Rn_icmp_ne (t := 20) rfl dX6_isSign_5, Rm_aload_n (k := 0) rfl dX6_isSign_8, Rm_getfield fl_6_31 dX6_isSign_9, Rm_iload_n (k := 1) rfl dX6_isSign_12, Rn_icmp_ne (t := 20) rfl dX6_isSign_13, Rn_iconst (v := jI (1)) rfl dX6_isSign_16, Rn_goto (t := 21) rfl dX6_isSign_17, Rn_iconst (v := jI (0)) rfl dX6_isSign_20, Rn_ireturn (ty := .boolean) rfl dX6_isSign_21, gs6_3 k11, gs6_6 k11, y3, y6, qI_s, qJ_s, qR_s, qV_s, qX_s, qN_s, qW_s, qF_s, qC_s, Option.bind_some, Option.bind_none, Nat.reduceAdd, Nat.reduceBEq, Nat.reduceEqDiff, lk_nil, lk_cons, lk_pt1, lk_pt2i, isJ_i, isJ_r, isJ_l, gI_i, gJ_i, gR_i, Bool.false_eq_true, if_true, if_false, ite_true, ite_false, ↓reduceIte, len4_0, len4_1, len4_2, len4_3, len4_4, Option.toList_some, Option.toList_none, List.cons_append, List.nil_append, va_rf_s, up_hp, ofI_j, jI_add, jI_sub, jI_mul, jI_neg, jL_add, jL_sub, jL_mul, jI_jL, jL_jI, nar_i, nar_zj, lt_t, lt_f, le_t, le_f, eq_t, eq_f, ez_t, ez_f, lz_t, lz_f, gz_t, gz_f, nz_t, nz_f, pz_t, pz_f, lgc_gt, lgc_lt, lgc_ge, lgc_le, lgc_eq, Lt_t, Lt_f, Le_t, Le_f, Eq_t, Eq_f, dv_j, not_true_eq_false, not_false_eq_true, Int.reduceEq, Int.reduceAdd, Int.reduceSub, Int.reduceMul, Int.reduceNeg, Ez_t, Ez_f, dv_L, false_and, true_and, and_true, and_false]
set_option maxHeartbeats 1000000 in
theorem s_isSign_f (hb : Byt g k) (he : e ≤ k) (hT : TK g k e nb M) {w : Int} (w0 : 0 ≤ w) (w1 : w < 256) (h : ¬ isSg g k e w) (d : Nat) : X (d + 1) 50 [.ref 11, .int (jI w)] (n, z, hp H M) = some (some (.int (jI 0)), (n, z, hp H M)) := by
  have y3 : M 11 3 = tkJ g k e nb := hT.2.2.2.1
  have y6 : M 11 6 = vaF g k e := hT.2.2.2.2.2.2.2
  have r := vaF_rng hb he
  have rj := tkJ_le g k e nb
  rw [Xe_X6_isSign]
  by_cases q : tkJ g k e nb = 3
  · have q2 : ¬ vaF g k e = w := fun h' => h ⟨tkJ_3.mp q, h'⟩
    rw [q] at y3
    simp (disch := omega) only [Rm_aload_n (k := 0) rfl dX6_isSign_0, Rm_getfield fl_6_22 dX6_isSign_1, Rn_iconst (v := jI (3)) rfl dX6_isSign_4, Rn_icmp_ne (t := 20) rfl dX6_isSign_5, Rm_aload_n (k := 0) rfl dX6_isSign_8, Rm_getfield fl_6_31 dX6_isSign_9, Rm_iload_n (k := 1) rfl dX6_isSign_12, Rn_icmp_ne (t := 20) rfl dX6_isSign_13, Rn_iconst (v := jI (1)) rfl dX6_isSign_16, Rn_goto (t := 21) rfl dX6_isSign_17, Rn_iconst (v := jI (0)) rfl dX6_isSign_20, Rn_ireturn (ty := .boolean) rfl dX6_isSign_21, gs6_3 k11, gs6_6 k11, y3, y6, Int.cast_ofNat_Int, qI_s, qJ_s, qR_s, qV_s, qX_s, qN_s, qW_s, qF_s, qC_s, Option.bind_some, Option.bind_none, Nat.reduceAdd, Nat.reduceBEq, Nat.reduceEqDiff, lk_nil, lk_cons, lk_pt1, lk_pt2i, isJ_i, isJ_r, isJ_l, gI_i, gJ_i, gR_i, Bool.false_eq_true, if_true, if_false, ite_true, ite_false, ↓reduceIte, len4_0, len4_1, len4_2, len4_3, len4_4, Option.toList_some, Option.toList_none, List.cons_append, List.nil_append, va_rf_s, up_hp, ofI_j, jI_add, jI_sub, jI_mul, jI_neg, jL_add, jL_sub, jL_mul, jI_jL, jL_jI, nar_i, nar_zj, lt_t, lt_f, le_t, le_f, eq_t, eq_f, ez_t, ez_f, lz_t, lz_f, gz_t, gz_f, nz_t, nz_f, pz_t, pz_f, lgc_gt, lgc_lt, lgc_ge, lgc_le, lgc_eq, Lt_t, Lt_f, Le_t, Le_f, Eq_t, Eq_f, dv_j, not_true_eq_false, not_false_eq_true, Int.reduceEq, Int.reduceAdd, Int.reduceSub, Int.reduceMul, Int.reduceNeg, Ez_t, Ez_f, dv_L, false_and, true_and, and_true, and_false]
  · simp (disch := omega) only [Rm_aload_n (k := 0) rfl dX6_isSign_0, Rm_getfield fl_6_22 dX6_isSign_1, Rn_iconst (v := jI (3)) rfl dX6_isSign_4, Rn_icmp_ne (t := 20) rfl dX6_isSign_5, Rm_aload_n (k := 0) rfl dX6_isSign_8, Rm_getfield fl_6_31 dX6_isSign_9, Rm_iload_n (k := 1) rfl dX6_isSign_12, Rn_icmp_ne (t := 20) rfl dX6_isSign_13, Rn_iconst (v := jI (1)) rfl dX6_isSign_16, Rn_goto (t := 21) rfl dX6_isSign_17, Rn_iconst (v := jI (0)) rfl dX6_isSign_20, Rn_ireturn (ty := .boolean) rfl dX6_isSign_21, gs6_3 k11, gs6_6 k11, y3, qI_s, qJ_s, qR_s, qV_s, qX_s, qN_s, qW_s, qF_s, qC_s, Option.bind_some, Option.bind_none, Nat.reduceAdd, Nat.reduceBEq, Nat.reduceEqDiff, lk_nil, lk_cons, lk_pt1, lk_pt2i, isJ_i, isJ_r, isJ_l, gI_i, gJ_i, gR_i, Bool.false_eq_true, if_true, if_false, ite_true, ite_false, ↓reduceIte, len4_0, len4_1, len4_2, len4_3, len4_4, Option.toList_some, Option.toList_none, List.cons_append, List.nil_append, va_rf_s, up_hp, ofI_j, jI_add, jI_sub, jI_mul, jI_neg, jL_add, jL_sub, jL_mul, jI_jL, jL_jI, nar_i, nar_zj, lt_t, lt_f, le_t, le_f, eq_t, eq_f, ez_t, ez_f, lz_t, lz_f, gz_t, gz_f, nz_t, nz_f, pz_t, pz_f, lgc_gt, lgc_lt, lgc_ge, lgc_le, lgc_eq, Lt_t, Lt_f, Le_t, Le_f, Eq_t, Eq_f, dv_j, not_true_eq_false, not_false_eq_true, Int.reduceEq, Int.reduceAdd, Int.reduceSub, Int.reduceMul, Int.reduceNeg, Ez_t, Ez_f, dv_L, false_and, true_and, and_true, and_false]
theorem s_wrong {a p : Int} (d : Nat) : X (d + 1) 51 [.ref 11, .int (jI a), .int (jI p)] (n, z, hp H M) = some (some (.int (jI 0)), (n, z, hp H (wrM1 M a p))) := by
  rw [Xe_X6_wrong]
  simp (disch := omega) only [Rm_aload_n (k := 0) rfl dX6_wrong_0, Rm_iload_n (k := 1) rfl dX6_wrong_1, Rm_putfieldI (ini := false) fl_6_34 rfl rfl dX6_wrong_2, Rm_aload_n (k := 0) rfl dX6_wrong_5, Rm_iload_n (k := 2) rfl dX6_wrong_6, Rm_putfieldI (ini := false) fl_6_37 rfl rfl dX6_wrong_7, Rn_iconst (v := jI (0)) rfl dX6_wrong_10, Rn_ireturn (ty := .boolean) rfl dX6_wrong_11, ps6_7 k11, ps6_8 k11, qI_s, qJ_s, qR_s, qV_s, qX_s, qN_s, qW_s, qF_s, qC_s, Option.bind_some, Option.bind_none, Nat.reduceAdd, Nat.reduceBEq, Nat.reduceEqDiff, lk_nil, lk_cons, lk_pt1, lk_pt2i, isJ_i, isJ_r, isJ_l, gI_i, gJ_i, gR_i, Bool.false_eq_true, if_true, if_false, ite_true, ite_false, ↓reduceIte, len4_0, len4_1, len4_2, len4_3, len4_4, Option.toList_some, Option.toList_none, List.cons_append, List.nil_append, va_rf_s, up_hp, ofI_j, jI_add, jI_sub, jI_mul, jI_neg, jL_add, jL_sub, jL_mul, jI_jL, jL_jI, nar_i, nar_zj, lt_t, lt_f, le_t, le_f, eq_t, eq_f, ez_t, ez_f, lz_t, lz_f, gz_t, gz_f, nz_t, nz_f, pz_t, pz_f, lgc_gt, lgc_lt, lgc_ge, lgc_le, lgc_eq, Lt_t, Lt_f, Le_t, Le_f, Eq_t, Eq_f, dv_j, not_true_eq_false, not_false_eq_true, Int.reduceEq, Int.reduceAdd, Int.reduceSub, Int.reduceMul, Int.reduceNeg, Ez_t, Ez_f, dv_L, false_and, true_and, and_true, and_false]
  rfl
/-- the next token -/
theorem s_nextT (hW : Hw H) (hb : Byt g k) (hk : k ≤ 1600) (he : e ≤ k) (hT : TK g k e nb M) (d : Nat) : ∃ M' : Me, X (d + 6) 42 [.ref 11] (n, z, hp H M) = some (none, (n, z, hp H M')) ∧ KG1 M M' ∧ TK g k (tkQ g k e) (nxB g k e nb) M' := by
  obtain ⟨t1, t2, t3⟩ := tkQ_prop (g := g) he
  have rj := tkJ_le g k e nb
  obtain ⟨M', e1, K1, T1⟩ := s_next (n := n) (z := z) (H := H) (M := M) hW (nb := nxB g k e nb) hT.1 hb hk t2 hT.2.1 hT.2.2.1 (by rw [hT.2.2.2.1]; omega) (by rw [hT.2.2.2.1]; unfold nxB; rw [decide_eq_true_iff]; omega) hT.2.2.2.2.2.2.1.2 d
  exact ⟨M', e1, KG1_n K1, T1⟩
theorem TK_at (hT : TK g k e nb M) : M 11 4 = skp g k e := hT.2.2.2.2.1
set_option maxHeartbeats 1000000 in
theorem s_takeSign_t (hW : Hw H) (hb : Byt g k) (hk : k ≤ 1600) (he : e ≤ k) (hT : TK g k e nb M) {w : Int} (w0 : 0 ≤ w) (w1 : w < 256) (h : isSg g k e w) (d : Nat) : ∃ M' : Me, X (d + 7) 53 [.ref 11, .int (jI w)] (n, z, hp H M) = some (some (.int (jI 1)), (n, z, hp H M')) ∧ KG1 M M' ∧ TK g k (tkQ g k e) (nxB g k e nb) M' := by
  obtain ⟨M', e1, K1, T1⟩ := s_nextT (n := n) (z := z) (H := H) hW hb hk he hT d
  refine ⟨M', ?_, K1, T1⟩
  have ei := s_isSign_t (n := n) (z := z) (H := H) hT w0 w1 h (d + 5)
  rw [Xe_X6_takeSign]
  simp (disch := omega) only [Rm_aload_n (k := 0) rfl dX6_takeSign_0, Rm_iload_n (k := 1) rfl dX6_takeSign_1, Rm_inV1 (d := dX6_takeSign_2) (hy := mo_50) (h13 := rfl) ml_6_91 rfl, Rn_if_ne (t := 18) rfl dX6_takeSign_5, Rm_aload_n (k := 0) rfl dX6_takeSign_8, Rn_iconst (v := jI (1)) rfl dX6_takeSign_9, Rm_aload_n (k := 0) rfl dX6_takeSign_10, Rm_getfield fl_6_25 dX6_takeSign_11, Rm_inV2 (d := dX6_takeSign_14) (hy := mo_51) (h13 := rfl) ml_6_87 rfl, Rn_ireturn (ty := .boolean) rfl dX6_takeSign_17, Rm_aload_n (k := 0) rfl dX6_takeSign_18, Rm_inV0 (d := dX6_takeSign_19) (hy := mo_42) (h13 := rfl) ml_6_49 rfl, Rn_iconst (v := jI (1)) rfl dX6_takeSign_22, Rn_ireturn (ty := .boolean) rfl dX6_takeSign_23, gs6_4 k11, io6 k11, io6 k11, ei, e1, qI_s, qJ_s, qR_s, qV_s, qX_s, qN_s, qW_s, qF_s, qC_s, Option.bind_some, Option.bind_none, Nat.reduceAdd, Nat.reduceBEq, Nat.reduceEqDiff, lk_nil, lk_cons, lk_pt1, lk_pt2i, isJ_i, isJ_r, isJ_l, gI_i, gJ_i, gR_i, Bool.false_eq_true, if_true, if_false, ite_true, ite_false, ↓reduceIte, len4_0, len4_1, len4_2, len4_3, len4_4, Option.toList_some, Option.toList_none, List.cons_append, List.nil_append, va_rf_s, up_hp, ofI_j, jI_add, jI_sub, jI_mul, jI_neg, jL_add, jL_sub, jL_mul, jI_jL, jL_jI, nar_i, nar_zj, lt_t, lt_f, le_t, le_f, eq_t, eq_f, ez_t, ez_f, lz_t, lz_f, gz_t, gz_f, nz_t, nz_f, pz_t, pz_f, lgc_gt, lgc_lt, lgc_ge, lgc_le, lgc_eq, Lt_t, Lt_f, Le_t, Le_f, Eq_t, Eq_f, dv_j, not_true_eq_false, not_false_eq_true, Int.reduceEq, Int.reduceAdd, Int.reduceSub, Int.reduceMul, Int.reduceNeg, Ez_t, Ez_f, dv_L, false_and, true_and, and_true, and_false]
set_option maxHeartbeats 1000000 in
theorem s_takeSign_f (hb : Byt g k) (he : e ≤ k) (hT : TK g k e nb M) {w : Int} (w0 : 0 ≤ w) (w1 : w < 256) (h : ¬ isSg g k e w) (d : Nat) : X (d + 2) 53 [.ref 11, .int (jI w)] (n, z, hp H M) = some (some (.int (jI 0)), (n, z, hp H (wrM1 M 1 (skp g k e)))) := by
  have ei := s_isSign_f (n := n) (z := z) (H := H) hb he hT w0 w1 h d
  have y4 := TK_at hT
  rw [Xe_X6_takeSign]
  simp (disch := omega) only [Rm_aload_n (k := 0) rfl dX6_takeSign_0, Rm_iload_n (k := 1) rfl dX6_takeSign_1, Rm_inV1 (d := dX6_takeSign_2) (hy := mo_50) (h13 := rfl) ml_6_91 rfl, Rn_if_ne (t := 18) rfl dX6_takeSign_5, Rm_aload_n (k := 0) rfl dX6_takeSign_8, Rn_iconst (v := jI (1)) rfl dX6_takeSign_9, Rm_aload_n (k := 0) rfl dX6_takeSign_10, Rm_getfield fl_6_25 dX6_takeSign_11, Rm_inV2 (d := dX6_takeSign_14) (hy := mo_51) (h13 := rfl) ml_6_87 rfl, Rn_ireturn (ty := .boolean) rfl dX6_takeSign_17, Rm_aload_n (k := 0) rfl dX6_takeSign_18, Rm_inV0 (d := dX6_takeSign_19) (hy := mo_42) (h13 := rfl) ml_6_49 rfl, Rn_iconst (v := jI (1)) rfl dX6_takeSign_22, Rn_ireturn (ty := .boolean) rfl dX6_takeSign_23, gs6_4 k11, io6 k11, io6 k11, ei, y4, s_wrong, qI_s, qJ_s, qR_s, qV_s, qX_s, qN_s, qW_s, qF_s, qC_s, Option.bind_some, Option.bind_none, Nat.reduceAdd, Nat.reduceBEq, Nat.reduceEqDiff, lk_nil, lk_cons, lk_pt1, lk_pt2i, isJ_i, isJ_r, isJ_l, gI_i, gJ_i, gR_i, Bool.false_eq_true, if_true, if_false, ite_true, ite_false, ↓reduceIte, len4_0, len4_1, len4_2, len4_3, len4_4, Option.toList_some, Option.toList_none, List.cons_append, List.nil_append, va_rf_s, up_hp, ofI_j, jI_add, jI_sub, jI_mul, jI_neg, jL_add, jL_sub, jL_mul, jI_jL, jL_jI, nar_i, nar_zj, lt_t, lt_f, le_t, le_f, eq_t, eq_f, ez_t, ez_f, lz_t, lz_f, gz_t, gz_f, nz_t, nz_f, pz_t, pz_f, lgc_gt, lgc_lt, lgc_ge, lgc_le, lgc_eq, Lt_t, Lt_f, Le_t, Le_f, Eq_t, Eq_f, dv_j, not_true_eq_false, not_false_eq_true, Int.reduceEq, Int.reduceAdd, Int.reduceSub, Int.reduceMul, Int.reduceNeg, Ez_t, Ez_f, dv_L, false_and, true_and, and_true, and_false]
set_option maxHeartbeats 1000000 in
theorem s_takeWord_t (hW : Hw H) (hb : Byt g k) (hk : k ≤ 1600) (he : e ≤ k) (hT : TK g k e nb M) {w : Int} (w0 : 0 ≤ w) (w1 : w < 100) (h : isWd g k e nb w) (d : Nat) : ∃ M' : Me, X (d + 7) 52 [.ref 11, .int (jI w)] (n, z, hp H M) = some (some (.int (jI 1)), (n, z, hp H M')) ∧ KG1 M M' ∧ TK g k (tkQ g k e) (nxB g k e nb) M' := by
  obtain ⟨M', e1, K1, T1⟩ := s_nextT (n := n) (z := z) (H := H) hW hb hk he hT d
  refine ⟨M', ?_, K1, T1⟩
  have ei := s_isWord_t (n := n) (z := z) (H := H) hT w0 w1 h (d + 5)
  rw [Xe_X6_takeWord]
  simp (disch := omega) only [Rm_aload_n (k := 0) rfl dX6_takeWord_0, Rm_iload_n (k := 1) rfl dX6_takeWord_1, Rm_inV1 (d := dX6_takeWord_2) (hy := mo_49) (h13 := rfl) ml_6_84 rfl, Rn_if_ne (t := 18) rfl dX6_takeWord_5, Rm_aload_n (k := 0) rfl dX6_takeWord_8, Rn_iconst (v := jI (1)) rfl dX6_takeWord_9, Rm_aload_n (k := 0) rfl dX6_takeWord_10, Rm_getfield fl_6_25 dX6_takeWord_11, Rm_inV2 (d := dX6_takeWord_14) (hy := mo_51) (h13 := rfl) ml_6_87 rfl, Rn_ireturn (ty := .boolean) rfl dX6_takeWord_17, Rm_aload_n (k := 0) rfl dX6_takeWord_18, Rm_inV0 (d := dX6_takeWord_19) (hy := mo_42) (h13 := rfl) ml_6_49 rfl, Rn_iconst (v := jI (1)) rfl dX6_takeWord_22, Rn_ireturn (ty := .boolean) rfl dX6_takeWord_23, gs6_4 k11, io6 k11, io6 k11, ei, e1, qI_s, qJ_s, qR_s, qV_s, qX_s, qN_s, qW_s, qF_s, qC_s, Option.bind_some, Option.bind_none, Nat.reduceAdd, Nat.reduceBEq, Nat.reduceEqDiff, lk_nil, lk_cons, lk_pt1, lk_pt2i, isJ_i, isJ_r, isJ_l, gI_i, gJ_i, gR_i, Bool.false_eq_true, if_true, if_false, ite_true, ite_false, ↓reduceIte, len4_0, len4_1, len4_2, len4_3, len4_4, Option.toList_some, Option.toList_none, List.cons_append, List.nil_append, va_rf_s, up_hp, ofI_j, jI_add, jI_sub, jI_mul, jI_neg, jL_add, jL_sub, jL_mul, jI_jL, jL_jI, nar_i, nar_zj, lt_t, lt_f, le_t, le_f, eq_t, eq_f, ez_t, ez_f, lz_t, lz_f, gz_t, gz_f, nz_t, nz_f, pz_t, pz_f, lgc_gt, lgc_lt, lgc_ge, lgc_le, lgc_eq, Lt_t, Lt_f, Le_t, Le_f, Eq_t, Eq_f, dv_j, not_true_eq_false, not_false_eq_true, Int.reduceEq, Int.reduceAdd, Int.reduceSub, Int.reduceMul, Int.reduceNeg, Ez_t, Ez_f, dv_L, false_and, true_and, and_true, and_false]
set_option maxHeartbeats 1000000 in
theorem s_takeWord_f (hT : TK g k e nb M) {w : Int} (w0 : 0 ≤ w) (w1 : w < 100) (h : ¬ isWd g k e nb w) (d : Nat) : X (d + 2) 52 [.ref 11, .int (jI w)] (n, z, hp H M) = some (some (.int (jI 0)), (n, z, hp H (wrM1 M 1 (skp g k e)))) := by
  have ei := s_isWord_f (n := n) (z := z) (H := H) hT w0 w1 h d
  have y4 := TK_at hT
  rw [Xe_X6_takeWord]
  simp (disch := omega) only [Rm_aload_n (k := 0) rfl dX6_takeWord_0, Rm_iload_n (k := 1) rfl dX6_takeWord_1, Rm_inV1 (d := dX6_takeWord_2) (hy := mo_49) (h13 := rfl) ml_6_84 rfl, Rn_if_ne (t := 18) rfl dX6_takeWord_5, Rm_aload_n (k := 0) rfl dX6_takeWord_8, Rn_iconst (v := jI (1)) rfl dX6_takeWord_9, Rm_aload_n (k := 0) rfl dX6_takeWord_10, Rm_getfield fl_6_25 dX6_takeWord_11, Rm_inV2 (d := dX6_takeWord_14) (hy := mo_51) (h13 := rfl) ml_6_87 rfl, Rn_ireturn (ty := .boolean) rfl dX6_takeWord_17, Rm_aload_n (k := 0) rfl dX6_takeWord_18, Rm_inV0 (d := dX6_takeWord_19) (hy := mo_42) (h13 := rfl) ml_6_49 rfl, Rn_iconst (v := jI (1)) rfl dX6_takeWord_22, Rn_ireturn (ty := .boolean) rfl dX6_takeWord_23, gs6_4 k11, io6 k11, io6 k11, ei, y4, s_wrong, qI_s, qJ_s, qR_s, qV_s, qX_s, qN_s, qW_s, qF_s, qC_s, Option.bind_some, Option.bind_none, Nat.reduceAdd, Nat.reduceBEq, Nat.reduceEqDiff, lk_nil, lk_cons, lk_pt1, lk_pt2i, isJ_i, isJ_r, isJ_l, gI_i, gJ_i, gR_i, Bool.false_eq_true, if_true, if_false, ite_true, ite_false, ↓reduceIte, len4_0, len4_1, len4_2, len4_3, len4_4, Option.toList_some, Option.toList_none, List.cons_append, List.nil_append, va_rf_s, up_hp, ofI_j, jI_add, jI_sub, jI_mul, jI_neg, jL_add, jL_sub, jL_mul, jI_jL, jL_jI, nar_i, nar_zj, lt_t, lt_f, le_t, le_f, eq_t, eq_f, ez_t, ez_f, lz_t, lz_f, gz_t, gz_f, nz_t, nz_f, pz_t, pz_f, lgc_gt, lgc_lt, lgc_ge, lgc_le, lgc_eq, Lt_t, Lt_f, Le_t, Le_f, Eq_t, Eq_f, dv_j, not_true_eq_false, not_false_eq_true, Int.reduceEq, Int.reduceAdd, Int.reduceSub, Int.reduceMul, Int.reduceNeg, Ez_t, Ez_f, dv_L, false_and, true_and, and_true, and_false]
set_option maxHeartbeats 1000000 in
theorem s_size (hk : k ≤ 1600) (he : e ≤ k) (hT : TK g k e nb M) (d : Nat) : X (d + 1) 48 [.ref 11] (n, z, hp H M) = some (some (.int (jI ((tkQ g k e - skp g k e : Nat) : Int))), (n, z, hp H M)) := by
  have t := tkQ_prop (g := g) he
  rw [show (((tkQ g k e - skp g k e : Nat) : Int)) = (tkQ g k e : Int) - skp g k e by omega]
  have y4 := TK_at hT
  have y2 := hT.2.2.1
  rw [Xe_X6_size]
  simp (disch := omega) only [Rm_aload_n (k := 0) rfl dX6_size_0, Rm_getfield fl_6_19 dX6_size_1, Rm_aload_n (k := 0) rfl dX6_size_4, Rm_getfield fl_6_25 dX6_size_5, Rn_isub dX6_size_8, Rn_ireturn (ty := .int) rfl dX6_size_9, gs6_2 k11, gs6_4 k11, y4, y2, qI_s, qJ_s, qR_s, qV_s, qX_s, qN_s, qW_s, qF_s, qC_s, Option.bind_some, Option.bind_none, Nat.reduceAdd, Nat.reduceBEq, Nat.reduceEqDiff, lk_nil, lk_cons, lk_pt1, lk_pt2i, isJ_i, isJ_r, isJ_l, gI_i, gJ_i, gR_i, Bool.false_eq_true, if_true, if_false, ite_true, ite_false, ↓reduceIte, len4_0, len4_1, len4_2, len4_3, len4_4, Option.toList_some, Option.toList_none, List.cons_append, List.nil_append, va_rf_s, up_hp, ofI_j, jI_add, jI_sub, jI_mul, jI_neg, jL_add, jL_sub, jL_mul, jI_jL, jL_jI, nar_i, nar_zj, lt_t, lt_f, le_t, le_f, eq_t, eq_f, ez_t, ez_f, lz_t, lz_f, gz_t, gz_f, nz_t, nz_f, pz_t, pz_f, lgc_gt, lgc_lt, lgc_ge, lgc_le, lgc_eq, Lt_t, Lt_f, Le_t, Le_f, Eq_t, Eq_f, dv_j, not_true_eq_false, not_false_eq_true, Int.reduceEq, Int.reduceAdd, Int.reduceSub, Int.reduceMul, Int.reduceNeg, Ez_t, Ez_f, dv_L, false_and, true_and, and_true, and_false]
set_option maxHeartbeats 1000000 in
theorem s_checkNumber (hk : k ≤ 1600) (he : e ≤ k) (hT : TK g k e nb M) (d : Nat) : X (d + 2) 54 [.ref 11] (n, z, hp H M) = some (if tkJ g k e nb = 2 then (if tkQ g k e - skp g k e ≤ 4 then (some (.int (jI 1)), (n, z, hp H M)) else (some (.int (jI 0)), (n, z, hp H (wrM1 M 1 (skp g k e + 4))))) else (some (.int (jI 0)), (n, z, hp H (wrM1 M 1 (skp g k e))))) := by
  have t := tkQ_prop (g := g) he
  have y4 := TK_at hT
  have y3 : M 11 3 = tkJ g k e nb := hT.2.2.2.1
  have rj := tkJ_le g k e nb
  have es := s_size (n := n) (z := z) (H := H) hk he hT d
  rw [Xe_X6_checkNumber]
  by_cases q : tkJ g k e nb = 2
  · rw [if_pos q]
    rw [q] at y3
    by_cases q2 : tkQ g k e - skp g k e ≤ 4
    · rw [if_pos q2]
      simp (disch := omega) only [Rm_aload_n (k := 0) rfl dX6_checkNumber_0, Rm_getfield fl_6_22 dX6_checkNumber_1, Rn_iconst (v := jI (2)) rfl dX6_checkNumber_4, Rn_icmp_eq (t := 18) rfl dX6_checkNumber_5, Rm_aload_n (k := 0) rfl dX6_checkNumber_8, Rn_iconst (v := jI (1)) rfl dX6_checkNumber_9, Rm_aload_n (k := 0) rfl dX6_checkNumber_10, Rm_getfield fl_6_25 dX6_checkNumber_11, Rm_inV2 (d := dX6_checkNumber_14) (hy := mo_51) (h13 := rfl) ml_6_87 rfl, Rn_ireturn (ty := .boolean) rfl dX6_checkNumber_17, Rm_aload_n (k := 0) rfl dX6_checkNumber_18, Rm_inV0 (d := dX6_checkNumber_19) (hy := mo_48) (h13 := rfl) ml_6_94 rfl, Rn_iconst (v := jI (4)) rfl dX6_checkNumber_22, Rn_icmp_le (t := 40) rfl dX6_checkNumber_23, Rm_aload_n (k := 0) rfl dX6_checkNumber_26, Rn_iconst (v := jI (1)) rfl dX6_checkNumber_27, Rm_aload_n (k := 0) rfl dX6_checkNumber_28, Rm_getfield fl_6_25 dX6_checkNumber_29, Rn_iconst (v := jI (4)) rfl dX6_checkNumber_32, Rn_iadd dX6_checkNumber_33, Rm_inV2 (d := dX6_checkNumber_34) (hy := mo_51) (h13 := rfl) ml_6_87 rfl, Rn_if_eq (t := 44) rfl dX6_checkNumber_37, Rn_iconst (v := jI (1)) rfl dX6_checkNumber_40, Rn_goto (t := 45) rfl dX6_checkNumber_41, Rn_iconst (v := jI (0)) rfl dX6_checkNumber_44, Rn_ireturn (ty := .boolean) rfl dX6_checkNumber_45, gs6_3 k11, gs6_4 k11, io6 k11, io6 k11, y3, es, Int.cast_ofNat_Int, qI_s, qJ_s, qR_s, qV_s, qX_s, qN_s, qW_s, qF_s, qC_s, Option.bind_some, Option.bind_none, Nat.reduceAdd, Nat.reduceBEq, Nat.reduceEqDiff, lk_nil, lk_cons, lk_pt1, lk_pt2i, isJ_i, isJ_r, isJ_l, gI_i, gJ_i, gR_i, Bool.false_eq_true, if_true, if_false, ite_true, ite_false, ↓reduceIte, len4_0, len4_1, len4_2, len4_3, len4_4, Option.toList_some, Option.toList_none, List.cons_append, List.nil_append, va_rf_s, up_hp, ofI_j, jI_add, jI_sub, jI_mul, jI_neg, jL_add, jL_sub, jL_mul, jI_jL, jL_jI, nar_i, nar_zj, lt_t, lt_f, le_t, le_f, eq_t, eq_f, ez_t, ez_f, lz_t, lz_f, gz_t, gz_f, nz_t, nz_f, pz_t, pz_f, lgc_gt, lgc_lt, lgc_ge, lgc_le, lgc_eq, Lt_t, Lt_f, Le_t, Le_f, Eq_t, Eq_f, dv_j, not_true_eq_false, not_false_eq_true, Int.reduceEq, Int.reduceAdd, Int.reduceSub, Int.reduceMul, Int.reduceNeg, Ez_t, Ez_f, dv_L, false_and, true_and, and_true, and_false]
    · rw [if_neg q2]
      simp (disch := omega) only [Rm_aload_n (k := 0) rfl dX6_checkNumber_0, Rm_getfield fl_6_22 dX6_checkNumber_1, Rn_iconst (v := jI (2)) rfl dX6_checkNumber_4, Rn_icmp_eq (t := 18) rfl dX6_checkNumber_5, Rm_aload_n (k := 0) rfl dX6_checkNumber_8, Rn_iconst (v := jI (1)) rfl dX6_checkNumber_9, Rm_aload_n (k := 0) rfl dX6_checkNumber_10, Rm_getfield fl_6_25 dX6_checkNumber_11, Rm_inV2 (d := dX6_checkNumber_14) (hy := mo_51) (h13 := rfl) ml_6_87 rfl, Rn_ireturn (ty := .boolean) rfl dX6_checkNumber_17, Rm_aload_n (k := 0) rfl dX6_checkNumber_18, Rm_inV0 (d := dX6_checkNumber_19) (hy := mo_48) (h13 := rfl) ml_6_94 rfl, Rn_iconst (v := jI (4)) rfl dX6_checkNumber_22, Rn_icmp_le (t := 40) rfl dX6_checkNumber_23, Rm_aload_n (k := 0) rfl dX6_checkNumber_26, Rn_iconst (v := jI (1)) rfl dX6_checkNumber_27, Rm_aload_n (k := 0) rfl dX6_checkNumber_28, Rm_getfield fl_6_25 dX6_checkNumber_29, Rn_iconst (v := jI (4)) rfl dX6_checkNumber_32, Rn_iadd dX6_checkNumber_33, Rm_inV2 (d := dX6_checkNumber_34) (hy := mo_51) (h13 := rfl) ml_6_87 rfl, Rn_if_eq (t := 44) rfl dX6_checkNumber_37, Rn_iconst (v := jI (1)) rfl dX6_checkNumber_40, Rn_goto (t := 45) rfl dX6_checkNumber_41, Rn_iconst (v := jI (0)) rfl dX6_checkNumber_44, Rn_ireturn (ty := .boolean) rfl dX6_checkNumber_45, gs6_3 k11, gs6_4 k11, io6 k11, io6 k11, y3, y4, es, s_wrong, Int.cast_ofNat_Int, qI_s, qJ_s, qR_s, qV_s, qX_s, qN_s, qW_s, qF_s, qC_s, Option.bind_some, Option.bind_none, Nat.reduceAdd, Nat.reduceBEq, Nat.reduceEqDiff, lk_nil, lk_cons, lk_pt1, lk_pt2i, isJ_i, isJ_r, isJ_l, gI_i, gJ_i, gR_i, Bool.false_eq_true, if_true, if_false, ite_true, ite_false, ↓reduceIte, len4_0, len4_1, len4_2, len4_3, len4_4, Option.toList_some, Option.toList_none, List.cons_append, List.nil_append, va_rf_s, up_hp, ofI_j, jI_add, jI_sub, jI_mul, jI_neg, jL_add, jL_sub, jL_mul, jI_jL, jL_jI, nar_i, nar_zj, lt_t, lt_f, le_t, le_f, eq_t, eq_f, ez_t, ez_f, lz_t, lz_f, gz_t, gz_f, nz_t, nz_f, pz_t, pz_f, lgc_gt, lgc_lt, lgc_ge, lgc_le, lgc_eq, Lt_t, Lt_f, Le_t, Le_f, Eq_t, Eq_f, dv_j, not_true_eq_false, not_false_eq_true, Int.reduceEq, Int.reduceAdd, Int.reduceSub, Int.reduceMul, Int.reduceNeg, Ez_t, Ez_f, dv_L, false_and, true_and, and_true, and_false]
  · rw [if_neg q]
    simp (disch := omega) only [Rm_aload_n (k := 0) rfl dX6_checkNumber_0, Rm_getfield fl_6_22 dX6_checkNumber_1, Rn_iconst (v := jI (2)) rfl dX6_checkNumber_4, Rn_icmp_eq (t := 18) rfl dX6_checkNumber_5, Rm_aload_n (k := 0) rfl dX6_checkNumber_8, Rn_iconst (v := jI (1)) rfl dX6_checkNumber_9, Rm_aload_n (k := 0) rfl dX6_checkNumber_10, Rm_getfield fl_6_25 dX6_checkNumber_11, Rm_inV2 (d := dX6_checkNumber_14) (hy := mo_51) (h13 := rfl) ml_6_87 rfl, Rn_ireturn (ty := .boolean) rfl dX6_checkNumber_17, Rm_aload_n (k := 0) rfl dX6_checkNumber_18, Rm_inV0 (d := dX6_checkNumber_19) (hy := mo_48) (h13 := rfl) ml_6_94 rfl, Rn_iconst (v := jI (4)) rfl dX6_checkNumber_22, Rn_icmp_le (t := 40) rfl dX6_checkNumber_23, Rm_aload_n (k := 0) rfl dX6_checkNumber_26, Rn_iconst (v := jI (1)) rfl dX6_checkNumber_27, Rm_aload_n (k := 0) rfl dX6_checkNumber_28, Rm_getfield fl_6_25 dX6_checkNumber_29, Rn_iconst (v := jI (4)) rfl dX6_checkNumber_32, Rn_iadd dX6_checkNumber_33, Rm_inV2 (d := dX6_checkNumber_34) (hy := mo_51) (h13 := rfl) ml_6_87 rfl, Rn_if_eq (t := 44) rfl dX6_checkNumber_37, Rn_iconst (v := jI (1)) rfl dX6_checkNumber_40, Rn_goto (t := 45) rfl dX6_checkNumber_41, Rn_iconst (v := jI (0)) rfl dX6_checkNumber_44, Rn_ireturn (ty := .boolean) rfl dX6_checkNumber_45, gs6_3 k11, gs6_4 k11, io6 k11, io6 k11, y3, y4, s_wrong, qI_s, qJ_s, qR_s, qV_s, qX_s, qN_s, qW_s, qF_s, qC_s, Option.bind_some, Option.bind_none, Nat.reduceAdd, Nat.reduceBEq, Nat.reduceEqDiff, lk_nil, lk_cons, lk_pt1, lk_pt2i, isJ_i, isJ_r, isJ_l, gI_i, gJ_i, gR_i, Bool.false_eq_true, if_true, if_false, ite_true, ite_false, ↓reduceIte, len4_0, len4_1, len4_2, len4_3, len4_4, Option.toList_some, Option.toList_none, List.cons_append, List.nil_append, va_rf_s, up_hp, ofI_j, jI_add, jI_sub, jI_mul, jI_neg, jL_add, jL_sub, jL_mul, jI_jL, jL_jI, nar_i, nar_zj, lt_t, lt_f, le_t, le_f, eq_t, eq_f, ez_t, ez_f, lz_t, lz_f, gz_t, gz_f, nz_t, nz_f, pz_t, pz_f, lgc_gt, lgc_lt, lgc_ge, lgc_le, lgc_eq, Lt_t, Lt_f, Le_t, Le_f, Eq_t, Eq_f, dv_j, not_true_eq_false, not_false_eq_true, Int.reduceEq, Int.reduceAdd, Int.reduceSub, Int.reduceMul, Int.reduceNeg, Ez_t, Ez_f, dv_L, false_and, true_and, and_true, and_false]
set_option maxHeartbeats 1000000 in
theorem s_add {c sz : Nat} (hc : kd c = 0) (h : M c 1 = sz) (hs : sz < 1600) {v : Int} (d : Nat) : X (d + 1) 1 [.ref c, .int (jI v)] (n, z, hp H M) = some (some (.int (jI 1)), (n, z, hp H (st (st M (c + 1) sz v) c 1 (sz + 1)))) := by
  have f : ∀ i v, st M (c + 1) i v c = M c := fun i v => st_ne _ _ _ (by omega)
  have c8 := kd0_8 hc
  rw [Xe_X0_add]
  simp (disch := omega) only [Rm_aload_n (k := 0) rfl dX0_add_0, Rm_getfield fl_0_15 dX0_add_1, Rm_aload_n (k := 0) rfl dX0_add_4, Rm_getfield fl_0_9 dX0_add_5, Rm_arraylength dX0_add_8, Rn_icmp_lt (t := 14) rfl dX0_add_9, Rn_iconst (v := jI (0)) rfl dX0_add_12, Rn_ireturn (ty := .boolean) rfl dX0_add_13, Rm_aload_n (k := 0) rfl dX0_add_14, Rm_getfield fl_0_9 dX0_add_15, Rm_aload_n (k := 0) rfl dX0_add_18, Rm_getfield fl_0_15 dX0_add_19, Rm_iload_n (k := 1) rfl dX0_add_22, Rm_iastore dX0_add_23, Rm_aload_n (k := 0) rfl dX0_add_24, Rn_dup_int dX0_add_25, Rn_dup_ref dX0_add_25, Rm_getfield fl_0_15 dX0_add_26, Rn_iconst (v := jI (1)) rfl dX0_add_29, Rn_iadd dX0_add_30, Rm_putfieldI (ini := false) fl_0_15 rfl rfl dX0_add_31, Rn_iconst (v := jI (1)) rfl dX0_add_34, Rn_ireturn (ty := .boolean) rfl dX0_add_35, gs0_0 hc, rdM (ka0_0 hc) (la0_0 hc), wrM (ka0_0 hc) (la0_0 hc), alM (ka0_0 hc) (la0_0 hc), gs0_1 hc, ps0_1 hc, h, f, Int.cast_ofNat_Int, qI_s, qJ_s, qR_s, qV_s, qX_s, qN_s, qW_s, qF_s, qC_s, Option.bind_some, Option.bind_none, Nat.reduceAdd, Nat.reduceBEq, Nat.reduceEqDiff, lk_nil, lk_cons, lk_pt1, lk_pt2i, isJ_i, isJ_r, isJ_l, gI_i, gJ_i, gR_i, Bool.false_eq_true, if_true, if_false, ite_true, ite_false, ↓reduceIte, len4_0, len4_1, len4_2, len4_3, len4_4, Option.toList_some, Option.toList_none, List.cons_append, List.nil_append, va_rf_s, up_hp, ofI_j, jI_add, jI_sub, jI_mul, jI_neg, jL_add, jL_sub, jL_mul, jI_jL, jL_jI, nar_i, nar_zj, lt_t, lt_f, le_t, le_f, eq_t, eq_f, ez_t, ez_f, lz_t, lz_f, gz_t, gz_f, nz_t, nz_f, pz_t, pz_f, lgc_gt, lgc_lt, lgc_ge, lgc_le, lgc_eq, Lt_t, Lt_f, Le_t, Le_f, Eq_t, Eq_f, dv_j, not_true_eq_false, not_false_eq_true, Int.reduceEq, Int.reduceAdd, Int.reduceSub, Int.reduceMul, Int.reduceNeg, Ez_t, Ez_f, dv_L, false_and, true_and, and_true, and_false]
end

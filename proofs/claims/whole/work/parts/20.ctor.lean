/-! constructors -/
/-- a row of cells from a on -/
def putL (f : Nat → AC) (a : Nat) (l : List AC) : Nat → AC := fun k => if a ≤ k ∧ k < a + l.length then l.getD (k - a) junk else f k
theorem putL_lo (f : Nat → AC) {a k : Nat} (l : List AC) (h : k < a) : putL f a l k = f k := by
  unfold putL
  rw [if_neg (by omega)]
theorem putL_hi (f : Nat → AC) {a k : Nat} (l : List AC) (h : a + l.length ≤ k) : putL f a l k = f k := by
  unfold putL
  rw [if_neg (by omega)]
theorem putL_at (f : Nat → AC) (a i : Nat) (l : List AC) (h : i < l.length) : putL f a l (a + i) = l.getD i junk := by
  unfold putL
  rw [if_pos (by omega), Nat.add_sub_cancel_left]
theorem putL_one (f : Nat → AC) (a : Nat) (c : AC) : up f a c = putL f a [c] := by
  funext k
  by_cases h : k = a
  · subst h
    rw [up_self]
    have := putL_at f k 0 [c] (by simp)
    exact this.symm
  · rw [up_ne _ _ h]
    rcases Nat.lt_or_gt_of_ne h with q | q
    · exact (putL_lo _ _ q).symm
    · exact (putL_hi _ _ (by simp; omega)).symm
theorem putL_up (f : Nat → AC) (a i : Nat) (l : List AC) (c : AC) (h : i < l.length) : up (putL f a l) (a + i) c = putL f a (l.set i c) := by
  funext k
  by_cases hk : k = a + i
  · subst hk
    rw [up_self, putL_at _ _ _ _ (by simpa using h)]
    simp [h]
  · rw [up_ne _ _ hk]
    unfold putL
    rw [List.length_set]
    by_cases h2 : a ≤ k ∧ k < a + l.length
    · rw [if_pos h2, if_pos h2]
      have : i ≠ k - a := by omega
      simp [List.getD_eq_getElem?_getD, List.getElem?_set_ne this]
    · rw [if_neg h2, if_neg h2]
theorem putL_push (f : Nat → AC) (a n : Nat) (l : List AC) (c : AC) (h : n = a + l.length) : up (putL f a l) n c = putL f a (l ++ [c]) := by
  subst h
  funext k
  by_cases hk : k = a + l.length
  · subst hk
    rw [up_self, putL_at _ _ _ _ (by simp)]
    simp
  · rw [up_ne _ _ hk]
    unfold putL
    rw [List.length_append]
    by_cases h2 : a ≤ k ∧ k < a + l.length
    · rw [if_pos h2, if_pos (by simp; omega)]
      simp [List.getD_eq_getElem?_getD, List.getElem?_append_left (show k - a < l.length by omega)]
    · rw [if_neg h2, if_neg (by simp; omega)]
theorem putL_putL (f : Nat → AC) (a n : Nat) (l m : List AC) (h : n = a + l.length) : putL (putL f a l) n m = putL f a (l ++ m) := by
  subst h
  funext k
  unfold putL
  rw [List.length_append]
  by_cases h1 : a + l.length ≤ k ∧ k < a + l.length + m.length
  · rw [if_pos h1, if_pos (by omega)]
    simp only [List.getD_eq_getElem?_getD]
    rw [List.getElem?_append_right (by omega), show k - a - l.length = k - (a + l.length) by omega]
  · rw [if_neg h1]
    by_cases h2 : a ≤ k ∧ k < a + l.length
    · rw [if_pos h2, if_pos (by omega)]
      simp only [List.getD_eq_getElem?_getD]
      rw [List.getElem?_append_left (by omega)]
    · rw [if_neg h2, if_neg (by omega)]
theorem putL_get (f : Nat → AC) {a k : Nat} (l : List AC) (h1 : a ≤ k) (h2 : k < a + l.length) : putL f a l k = l.getD (k - a) junk := by
  unfold putL
  rw [if_pos ⟨h1, h2⟩]
theorem putL_set (f : Nat → AC) {a k : Nat} (l : List AC) (c : AC) (h1 : a ≤ k) (h2 : k < a + l.length) : up (putL f a l) k c = putL f a (l.set (k - a) c) := by
  have e : k = a + (k - a) := by omega
  conv => lhs; rw [e]
  exact putL_up f a (k - a) l c (by omega)
theorem putL_get0 (f : Nat → AC) (a : Nat) (x : AC) (l : List AC) : putL f a (x :: l) a = x := by
  rw [putL_get f _ (Nat.le_refl a) (by simp)]
  simp
theorem putL_set0 (f : Nat → AC) (a : Nat) (x c : AC) (l : List AC) : up (putL f a (x :: l)) a c = putL f a (c :: l) := by
  rw [putL_set f _ _ (Nat.le_refl a) (by simp)]
  simp
abbrev zI (n : Nat) : AC := .inl (1, n, .inl (fun _ => 0))
set_option maxHeartbeats 4000000 in
set_option maxRecDepth 100000 in
theorem s_State (d a z : Nat) (f : Nat → AC) (h8 : 8 ≤ a) (h1 : f 1 = .inl (5, 5, .inl mof)) :
    X (d + 1) 57 [.ref a] (a + 1, z, putL f a [.inr (7, dfs 7)]) = some (none, (a + 5, z + 94, putL f a [.inr (7, [.int 0, .ref (a + 1), .ref (a + 2), .ref (a + 3), .ref (a + 4)]), zI 32, zI 32, zI 24, zI 6])) := by
  have h1a : 1 < a := by omega
  rw [Xe_X7_init]
  simp [Rn_aload_n (k := 0) rfl dX7_init_0, Rn_inObj (d := dX7_init_1) ml_7_3, Rn_aload_n (k := 0) rfl dX7_init_4, Rn_bipush (v := (32)) rfl dX7_init_5, Rn_newarray dX7_init_7, Rn_putfieldR (ini := true) fl_7_9 rfl rfl dX7_init_9, Rn_aload_n (k := 0) rfl dX7_init_12, Rn_bipush (v := (32)) rfl dX7_init_13, Rn_newarray dX7_init_15, Rn_putfieldR (ini := true) fl_7_15 rfl rfl dX7_init_17, Rn_aload_n (k := 0) rfl dX7_init_20, Rn_getstatic (v := .ref 1) gl_7_18 rfl dX7_init_21, Rn_iconst (v := (2)) rfl dX7_init_24, Rn_iaload dX7_init_25, Rn_iconst (v := (4)) rfl dX7_init_26, Rn_imul dX7_init_27, Rn_newarray dX7_init_28, Rn_putfieldR (ini := true) fl_7_21 rfl rfl dX7_init_30, Rn_aload_n (k := 0) rfl dX7_init_33, Rn_getstatic (v := .ref 1) gl_7_18 rfl dX7_init_34, Rn_iconst (v := (2)) rfl dX7_init_37, Rn_iaload dX7_init_38, Rn_newarray dX7_init_39, Rn_putfieldR (ini := true) fl_7_24 rfl rfl dX7_init_41, Rn_return rfl dX7_init_44, Option.bind_some, Option.bind_none, Nat.reduceAdd, Nat.reduceBEq, Nat.reduceEqDiff, lk_nil, lk_cons, lk_pt1, lk_pt2, lk_pt2b, isJ_i, isJ_r, isJ_l, gI_i, gJ_i, gR_i, Bool.false_eq_true, if_true, if_false, ite_true, ite_false, reduceIte, len4_0, len4_1, len4_2, len4_3, len4_4, Option.toList_some, Option.toList_none, List.cons_append, List.nil_append, gf_o, isO_o, pf_o, List.length_cons, List.length_nil, List.getElem?_cons_zero, List.getElem?_cons_succ, List.set_cons_zero, List.set_cons_succ, va_rf_s, up_self, rdi_a, rdi_5, rdi_0, rdi_4, wri_a, rdl_a, wrl_a, rdr_a, wrr_a, aln_0, aln_1, aln_3, aln_4, aln_5, ofI_1, ofI_m1, h8, h1a, dfs, nwa, h1, putL_get0, putL_set0, putL_get, putL_lo, putL_set, putL_push, mof]
set_option maxHeartbeats 4000000 in
set_option maxRecDepth 100000 in
theorem s_Code (d a z : Nat) (f : Nat → AC) (h8 : 8 ≤ a) :
    X (d + 1) 0 [.ref a] (a + 1, z, putL f a [.inr (0, dfs 0)]) = some (none, (a + 2, z + 1600, putL f a [.inr (0, [.ref (a + 1), .int 0]), zI 1600])) := by
  rw [Xe_X0_init]
  simp [Rn_aload_n (k := 0) rfl dX0_init_0, Rn_inObj (d := dX0_init_1) ml_0_3, Rn_aload_n (k := 0) rfl dX0_init_4, Rn_sipush (v := (1600)) rfl dX0_init_5, Rn_newarray dX0_init_8, Rn_putfieldR (ini := true) fl_0_9 rfl rfl dX0_init_10, Rn_aload_n (k := 0) rfl dX0_init_13, Rn_iconst (v := (0)) rfl dX0_init_14, Rn_putfieldI (ini := true) fl_0_15 rfl rfl dX0_init_15, Rn_return rfl dX0_init_18, Option.bind_some, Option.bind_none, Nat.reduceAdd, Nat.reduceBEq, Nat.reduceEqDiff, lk_nil, lk_cons, lk_pt1, lk_pt2, lk_pt2b, isJ_i, isJ_r, isJ_l, gI_i, gJ_i, gR_i, Bool.false_eq_true, if_true, if_false, ite_true, ite_false, reduceIte, len4_0, len4_1, len4_2, len4_3, len4_4, Option.toList_some, Option.toList_none, List.cons_append, List.nil_append, gf_o, isO_o, pf_o, List.length_cons, List.length_nil, List.getElem?_cons_zero, List.getElem?_cons_succ, List.set_cons_zero, List.set_cons_succ, va_rf_s, up_self, rdi_a, rdi_5, rdi_0, rdi_4, wri_a, rdl_a, wrl_a, rdr_a, wrr_a, aln_0, aln_1, aln_3, aln_4, aln_5, ofI_1, ofI_m1, h8, dfs, nwa, putL_get0, putL_set0, putL_get, putL_set, putL_push]
set_option maxHeartbeats 4000000 in
set_option maxRecDepth 100000 in
theorem s_Sums (d a z : Nat) (f : Nat → AC) (h8 : 8 ≤ a) :
    X (d + 1) 63 [.ref a] (a + 1, z, putL f a [.inr (8, dfs 8)]) = some (none, (a + 2, z + 64, putL f a [.inr (8, [.ref (a + 1), .int 0, .int 0, .int 0, .int 0]), zI 64])) := by
  rw [Xe_X8_init]
  simp [Rn_aload_n (k := 0) rfl dX8_init_0, Rn_inObj (d := dX8_init_1) ml_8_3, Rn_aload_n (k := 0) rfl dX8_init_4, Rn_bipush (v := (64)) rfl dX8_init_5, Rn_newarray dX8_init_7, Rn_putfieldR (ini := true) fl_8_9 rfl rfl dX8_init_9, Rn_aload_n (k := 0) rfl dX8_init_12, Rn_iconst (v := (0)) rfl dX8_init_13, Rn_putfieldI (ini := true) fl_8_15 rfl rfl dX8_init_14, Rn_aload_n (k := 0) rfl dX8_init_17, Rn_iconst (v := (0)) rfl dX8_init_18, Rn_putfieldI (ini := true) fl_8_19 rfl rfl dX8_init_19, Rn_aload_n (k := 0) rfl dX8_init_22, Rn_iconst (v := (0)) rfl dX8_init_23, Rn_putfieldI (ini := true) fl_8_22 rfl rfl dX8_init_24, Rn_aload_n (k := 0) rfl dX8_init_27, Rn_iconst (v := (0)) rfl dX8_init_28, Rn_putfieldI (ini := true) fl_8_25 rfl rfl dX8_init_29, Rn_return rfl dX8_init_32, Option.bind_some, Option.bind_none, Nat.reduceAdd, Nat.reduceBEq, Nat.reduceEqDiff, lk_nil, lk_cons, lk_pt1, lk_pt2, lk_pt2b, isJ_i, isJ_r, isJ_l, gI_i, gJ_i, gR_i, Bool.false_eq_true, if_true, if_false, ite_true, ite_false, reduceIte, len4_0, len4_1, len4_2, len4_3, len4_4, Option.toList_some, Option.toList_none, List.cons_append, List.nil_append, gf_o, isO_o, pf_o, List.length_cons, List.length_nil, List.getElem?_cons_zero, List.getElem?_cons_succ, List.set_cons_zero, List.set_cons_succ, va_rf_s, up_self, rdi_a, rdi_5, rdi_0, rdi_4, wri_a, rdl_a, wrl_a, rdr_a, wrr_a, aln_0, aln_1, aln_3, aln_4, aln_5, ofI_1, ofI_m1, h8, dfs, nwa, putL_get0, putL_set0, putL_get, putL_set, putL_push]
set_option maxHeartbeats 4000000 in
set_option maxRecDepth 100000 in
theorem s_Life (d a z : Nat) (f : Nat → AC) (h8 : 8 ≤ a) :
    X (d + 2) 32 [.ref a] (a + 1, z, putL f a [.inr (5, dfs 5)]) = some (none, (a + 3, z + 69, putL f a [.inr (5, [.ref (a + 1)]), .inr (8, [.ref (a + 2), .int 0, .int 0, .int 0, .int 0]), zI 64])) := by
  rw [Xe_X5_init]
  have e := s_Sums d (a + 1) (z + 5) (putL f a [.inr (5, dfs 5)]) (by omega)
  rw [← putL_one, putL_push _ _ _ _ _ (by simp), putL_putL _ _ _ _ _ (by simp)] at e
  simp [dfs] at e
  simp [Rn_aload_n (k := 0) rfl dX5_init_0, Rn_inObj (d := dX5_init_1) ml_5_3, Rn_aload_n (k := 0) rfl dX5_init_4, Rn_new cl_5_9 rfl dX5_init_5, Rn_dup_int dX5_init_8, Rn_dup_ref dX5_init_8, Rn_inI0 (d := dX5_init_9) ml_5_11 rfl, Rn_putfieldR (ini := true) fl_5_12 rfl rfl dX5_init_12, Rn_return rfl dX5_init_15, Option.bind_some, Option.bind_none, Nat.reduceAdd, Nat.reduceBEq, Nat.reduceEqDiff, lk_nil, lk_cons, lk_pt1, lk_pt2, lk_pt2b, isJ_i, isJ_r, isJ_l, gI_i, gJ_i, gR_i, Bool.false_eq_true, if_true, if_false, ite_true, ite_false, reduceIte, len4_0, len4_1, len4_2, len4_3, len4_4, Option.toList_some, Option.toList_none, List.cons_append, List.nil_append, gf_o, isO_o, pf_o, List.length_cons, List.length_nil, List.getElem?_cons_zero, List.getElem?_cons_succ, List.set_cons_zero, List.set_cons_succ, va_rf_s, up_self, rdi_a, rdi_5, rdi_0, rdi_4, wri_a, rdl_a, wrl_a, rdr_a, wrr_a, aln_0, aln_1, aln_3, aln_4, aln_5, ofI_1, ofI_m1, h8, dfs, nwa, putL_get0, putL_set0, putL_get, putL_set, putL_push, NXs, e]
set_option maxHeartbeats 4000000 in
set_option maxRecDepth 100000 in
theorem s_Reader (d a z : Nat) (f : Nat → AC) (h8 : 8 ≤ a) :
    X (d + 1) 40 [.ref a] (a + 1, z, putL f a [.inr (6, dfs 6)]) = some (none, (a + 2, z + 1600, putL f a [.inr (6, [.ref (a + 1), .int 0, .int 0, .int 0, .int 0, .int (-1), .int 0, .int 0, .int (-1)]), zI 1600])) := by
  rw [Xe_X6_init]
  simp [Rn_aload_n (k := 0) rfl dX6_init_0, Rn_inObj (d := dX6_init_1) ml_6_3, Rn_aload_n (k := 0) rfl dX6_init_4, Rn_sipush (v := (1600)) rfl dX6_init_5, Rn_newarray dX6_init_8, Rn_putfieldR (ini := true) fl_6_9 rfl rfl dX6_init_10, Rn_aload_n (k := 0) rfl dX6_init_13, Rn_iconst (v := (0)) rfl dX6_init_14, Rn_putfieldI (ini := true) fl_6_15 rfl rfl dX6_init_15, Rn_aload_n (k := 0) rfl dX6_init_18, Rn_iconst (v := (0)) rfl dX6_init_19, Rn_putfieldI (ini := true) fl_6_19 rfl rfl dX6_init_20, Rn_aload_n (k := 0) rfl dX6_init_23, Rn_iconst (v := (0)) rfl dX6_init_24, Rn_putfieldI (ini := true) fl_6_22 rfl rfl dX6_init_25, Rn_aload_n (k := 0) rfl dX6_init_28, Rn_iconst (v := (0)) rfl dX6_init_29, Rn_putfieldI (ini := true) fl_6_25 rfl rfl dX6_init_30, Rn_aload_n (k := 0) rfl dX6_init_33, Rn_iconst (v := (-1)) rfl dX6_init_34, Rn_putfieldI (ini := true) fl_6_28 rfl rfl dX6_init_35, Rn_aload_n (k := 0) rfl dX6_init_38, Rn_iconst (v := (0)) rfl dX6_init_39, Rn_putfieldI (ini := true) fl_6_31 rfl rfl dX6_init_40, Rn_aload_n (k := 0) rfl dX6_init_43, Rn_iconst (v := (0)) rfl dX6_init_44, Rn_putfieldI (ini := true) fl_6_34 rfl rfl dX6_init_45, Rn_aload_n (k := 0) rfl dX6_init_48, Rn_iconst (v := (-1)) rfl dX6_init_49, Rn_putfieldI (ini := true) fl_6_37 rfl rfl dX6_init_50, Rn_return rfl dX6_init_53, Option.bind_some, Option.bind_none, Nat.reduceAdd, Nat.reduceBEq, Nat.reduceEqDiff, lk_nil, lk_cons, lk_pt1, lk_pt2, lk_pt2b, isJ_i, isJ_r, isJ_l, gI_i, gJ_i, gR_i, Bool.false_eq_true, if_true, if_false, ite_true, ite_false, reduceIte, len4_0, len4_1, len4_2, len4_3, len4_4, Option.toList_some, Option.toList_none, List.cons_append, List.nil_append, gf_o, isO_o, pf_o, List.length_cons, List.length_nil, List.getElem?_cons_zero, List.getElem?_cons_succ, List.set_cons_zero, List.set_cons_succ, va_rf_s, up_self, rdi_a, rdi_5, rdi_0, rdi_4, wri_a, rdl_a, wrl_a, rdr_a, wrr_a, aln_0, aln_1, aln_3, aln_4, aln_5, ofI_1, ofI_m1, h8, dfs, nwa, putL_get0, putL_set0, putL_get, putL_set, putL_push]
set_option maxHeartbeats 4000000 in
set_option maxRecDepth 100000 in
theorem s_Image (d a z : Nat) (f : Nat → AC) (h8 : 8 ≤ a) :
    X (d + 1) 26 [.ref a] (a + 1, z, putL f a [.inr (4, dfs 4)]) = some (none, (a + 2, z + 97, putL f a [.inr (4, [.ref (a + 1), .int 0]), zI 97])) := by
  rw [Xe_X4_init]
  simp [Rn_aload_n (k := 0) rfl dX4_init_0, Rn_inObj (d := dX4_init_1) ml_4_3, Rn_aload_n (k := 0) rfl dX4_init_4, Rn_bipush (v := (97)) rfl dX4_init_5, Rn_newarray dX4_init_7, Rn_putfieldR (ini := true) fl_4_9 rfl rfl dX4_init_9, Rn_aload_n (k := 0) rfl dX4_init_12, Rn_iconst (v := (0)) rfl dX4_init_13, Rn_putfieldI (ini := true) fl_4_15 rfl rfl dX4_init_14, Rn_return rfl dX4_init_17, Option.bind_some, Option.bind_none, Nat.reduceAdd, Nat.reduceBEq, Nat.reduceEqDiff, lk_nil, lk_cons, lk_pt1, lk_pt2, lk_pt2b, isJ_i, isJ_r, isJ_l, gI_i, gJ_i, gR_i, Bool.false_eq_true, if_true, if_false, ite_true, ite_false, reduceIte, len4_0, len4_1, len4_2, len4_3, len4_4, Option.toList_some, Option.toList_none, List.cons_append, List.nil_append, gf_o, isO_o, pf_o, List.length_cons, List.length_nil, List.getElem?_cons_zero, List.getElem?_cons_succ, List.set_cons_zero, List.set_cons_succ, va_rf_s, up_self, rdi_a, rdi_5, rdi_0, rdi_4, wri_a, rdl_a, wrl_a, rdr_a, wrr_a, aln_0, aln_1, aln_3, aln_4, aln_5, ofI_1, ofI_m1, h8, dfs, nwa, putL_get0, putL_set0, putL_get, putL_set, putL_push]

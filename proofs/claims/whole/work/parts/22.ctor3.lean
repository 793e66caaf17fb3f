/-! constructors of the larger trees -/
abbrev z0 : Nat → Int32 := fun _ => 0
set_option maxHeartbeats 4000000 in
set_option maxRecDepth 100000 in
theorem s_Town (d t z : Nat) (f : Nat → AC) (h8 : 8 ≤ t) (h1 : f 1 = .inl (5, 5, .inl mof)) :
    X (d + 3) 70 [.ref t] (t + 1, z, putL f t [.inr (9, dfs 9)]) = some (none, (t + 13, z + 1755, putL f t (townL t 0 z0 z0 z0 z0 z0 z0 z0 z0 0 z0 z0 z0 5 18 0 0))) := by
  have h1t : 1 < t := by omega
  rw [Xe_X9_init]
  have e := fun z => s_Code (d + 1) (t + 9) z (putL f t [.inr (9, [.int 0, .ref (t + 1), .ref (t + 2), .ref (t + 3), .ref (t + 4), .ref (t + 5), .ref (t + 6), .ref (t + 7), .ref (t + 8), .null, .null, .null, .int 0, .int 0, .int 0, .int 0]), zI 5, zI 40, zI 32, zI 6, zI 6, zI 16, zI 16, zI 16]) (by omega)
  simp only [← putL_one] at e
  have c := fun z => s_clear d t (t + 13) z f h8 0 z0 z0 z0 z0 z0 z0 z0 z0 0 z0 z0 z0 0 0 0 0
  simp [dfs, putL_push, putL_putL] at e c
  simp [Rn_aload_n (k := 0) rfl dX9_init_0, Rn_inObj (d := dX9_init_1) ml_9_3, Rn_aload_n (k := 0) rfl dX9_init_4, Rn_getstatic (v := .ref 1) gl_9_9 rfl dX9_init_5, Rn_arraylength dX9_init_8, Rn_newarray dX9_init_9, Rn_putfieldR (ini := true) fl_9_13 rfl rfl dX9_init_11, Rn_aload_n (k := 0) rfl dX9_init_14, Rn_getstatic (v := .ref 1) gl_9_9 rfl dX9_init_15, Rn_arraylength dX9_init_18, Rn_bipush (v := (8)) rfl dX9_init_19, Rn_imul dX9_init_21, Rn_newarray dX9_init_22, Rn_putfieldR (ini := true) fl_9_18 rfl rfl dX9_init_24, Rn_aload_n (k := 0) rfl dX9_init_27, Rn_bipush (v := (32)) rfl dX9_init_28, Rn_newarray dX9_init_30, Rn_putfieldR (ini := true) fl_9_21 rfl rfl dX9_init_32, Rn_aload_n (k := 0) rfl dX9_init_35, Rn_getstatic (v := .ref 1) gl_9_9 rfl dX9_init_36, Rn_iconst (v := (2)) rfl dX9_init_39, Rn_iaload dX9_init_40, Rn_newarray dX9_init_41, Rn_putfieldR (ini := true) fl_9_24 rfl rfl dX9_init_43, Rn_aload_n (k := 0) rfl dX9_init_46, Rn_getstatic (v := .ref 1) gl_9_9 rfl dX9_init_47, Rn_iconst (v := (2)) rfl dX9_init_50, Rn_iaload dX9_init_51, Rn_newarray dX9_init_52, Rn_putfieldR (ini := true) fl_9_27 rfl rfl dX9_init_54, Rn_aload_n (k := 0) rfl dX9_init_57, Rn_getstatic (v := .ref 1) gl_9_9 rfl dX9_init_58, Rn_iconst (v := (3)) rfl dX9_init_61, Rn_iaload dX9_init_62, Rn_newarray dX9_init_63, Rn_putfieldR (ini := true) fl_9_30 rfl rfl dX9_init_65, Rn_aload_n (k := 0) rfl dX9_init_68, Rn_getstatic (v := .ref 1) gl_9_9 rfl dX9_init_69, Rn_iconst (v := (3)) rfl dX9_init_72, Rn_iaload dX9_init_73, Rn_newarray dX9_init_74, Rn_putfieldR (ini := true) fl_9_33 rfl rfl dX9_init_76, Rn_aload_n (k := 0) rfl dX9_init_79, Rn_getstatic (v := .ref 1) gl_9_9 rfl dX9_init_80, Rn_iconst (v := (3)) rfl dX9_init_83, Rn_iaload dX9_init_84, Rn_newarray dX9_init_85, Rn_putfieldR (ini := true) fl_9_36 rfl rfl dX9_init_87, Rn_aload_n (k := 0) rfl dX9_init_90, Rn_new cl_9_39 rfl dX9_init_91, Rn_dup_int dX9_init_94, Rn_dup_ref dX9_init_94, Rn_inI0 (d := dX9_init_95) ml_9_41 rfl, Rn_putfieldR (ini := true) fl_9_42 rfl rfl dX9_init_98, Rn_aload_n (k := 0) rfl dX9_init_101, Rn_bipush (v := (8)) rfl dX9_init_102, Rn_newarray dX9_init_104, Rn_putfieldR (ini := true) fl_9_46 rfl rfl dX9_init_106, Rn_aload_n (k := 0) rfl dX9_init_109, Rn_bipush (v := (8)) rfl dX9_init_110, Rn_newarray dX9_init_112, Rn_putfieldR (ini := true) fl_9_49 rfl rfl dX9_init_114, Rn_aload_n (k := 0) rfl dX9_init_117, Rn_inV0 (d := dX9_init_118) (hy := mo_71) (h13 := rfl) ml_9_52 rfl, Rn_return rfl dX9_init_121, Option.bind_some, Option.bind_none, Nat.reduceAdd, Nat.reduceBEq, Nat.reduceEqDiff, lk_nil, lk_cons, lk_pt1, lk_pt2, lk_pt2b, isJ_i, isJ_r, isJ_l, gI_i, gJ_i, gR_i, Bool.false_eq_true, if_true, if_false, ite_true, ite_false, reduceIte, len4_0, len4_1, len4_2, len4_3, len4_4, Option.toList_some, Option.toList_none, List.cons_append, List.nil_append, gf_o, isO_o, pf_o, List.length_cons, List.length_nil, List.getElem?_cons_zero, List.getElem?_cons_succ, List.set_cons_zero, List.set_cons_succ, va_rf_s, up_self, rdi_a, rdi_5, rdi_0, rdi_4, wri_a, rdl_a, wrl_a, rdr_a, wrr_a, aln_0, aln_1, aln_3, aln_4, aln_5, ofI_1, ofI_m1, h8, h1t, h1, dfs, nwa, putL_get0, putL_set0, putL_get, putL_lo, putL_set, putL_push, NXs, mof, e, c, fillF_0]
/-- a State's cells, fresh -/
abbrev stateL (b : Nat) : List AC := [.inr (7, [.int 0, .ref (b + 1), .ref (b + 2), .ref (b + 3), .ref (b + 4)]), zI 32, zI 32, zI 24, zI 6]
/-- i fresh States, one behind the other -/
def statesL (b : Nat) : Nat → List AC
  | 0 => []
  | i + 1 => statesL b i ++ stateL (b + 5 * i)
theorem statesL_len (b i : Nat) : (statesL b i).length = 5 * i := by
  induction i with
  | zero => rfl
  | succ i ih => simp [statesL, ih]; omega
def rowS (b i : Nat) : Nat → Option Nat := fun j => if j < i then some (b + 5 * j) else none
theorem rowS_up (b i : Nat) : va_up (rowS b i) i (some (b + 5 * i)) = rowS b (i + 1) := by
  funext j
  unfold va_up rowS
  by_cases h : j = i
  · simp [h]
  · by_cases h2 : j < i
    · simp [h, h2, show j < i + 1 by omega]
    · simp [h, h2, show ¬ j < i + 1 by omega]
theorem putL_nil (f : Nat → AC) (a : Nat) : putL f a [] = f := by
  funext k
  by_cases q : a ≤ k
  · exact putL_hi f [] (by simpa using q)
  · exact putL_lo f [] (by omega)
theorem putL_up_lo (f : Nat → AC) {a r : Nat} (l : List AC) (c : AC) (h : r < a) : up (putL f a l) r c = putL (up f r c) a l := by
  funext k
  by_cases hk : k = r
  · subst hk
    rw [up_self, putL_lo _ _ h, up_self]
  · rw [up_ne _ _ hk]
    unfold putL
    by_cases h2 : a ≤ k ∧ k < a + l.length
    · rw [if_pos h2, if_pos h2]
    · rw [if_neg h2, if_neg h2, up_ne _ _ hk]
/-- the heap with i fresh States from b on, a row of them at r -/
def HH (g : Nat → AC) (r N b i : Nat) : Nat → AC := putL (up g r (.inl (3, N, .inr (.inr (.inr (.inr (rowS b i))))))) b (statesL b i)
theorem HH_lo (g : Nat → AC) {r N b i k : Nat} (h : k < b) (hr : ¬ k = r) : HH g r N b i k = g k := by
  unfold HH
  rw [putL_lo _ _ h, up_ne _ _ hr]
theorem HH_r (g : Nat → AC) {r N b i : Nat} (h : r < b) : HH g r N b i r = .inl (3, N, .inr (.inr (.inr (.inr (rowS b i))))) := by
  unfold HH
  rw [putL_lo _ _ h, up_self]
theorem HH_next (g : Nat → AC) {r N b i : Nat} (h : r < b) : up (putL (HH g r N b i) (b + 5 * i) (stateL (b + 5 * i))) r (.inl (3, N, .inr (.inr (.inr (.inr (va_up (rowS b i) i (some (b + 5 * i)))))))) = HH g r N b (i + 1) := by
  unfold HH
  rw [putL_putL _ _ _ _ _ (by rw [statesL_len]), putL_up_lo _ _ _ h, up_up, rowS_up]
  rfl
set_option maxHeartbeats 4000000 in
set_option maxRecDepth 100000 in
theorem s_History_loop (d a r b z : Nat) (g : Nat → AC) (h8 : 8 ≤ a) (hr8 : 8 ≤ r) (ha : a < b) (hr : r < b) (har : ¬ a = r) (hga : g a = .inr (3, [.ref r, .int 0, .int 0])) (h1 : g 1 = .inl (5, 5, .inl mof)) : ∀ (m i : Nat) (l : Lo), i + m = 20 → lk l 0 = some (.ref a) → lk l 1 = some (.int (nI i)) →
    Rn (X (d + 1)) 3 none true 2 cX3_init (25, l, [], (b + 5 * i, z + 99 * i, HH g r 20 b i)) = some (none, (b + 5 * 20, z + 99 * 20, HH g r 20 b 20)) := by
  intro m
  induction m with
  | zero =>
    intro i l hi k0 k1
    have : i = 20 := by omega
    subst this
    have hc : Int32.ofNat 20 ≤ nI 20 := Int32.le_refl _
    have e1 : HH g r 20 b 20 a = .inr (3, [.ref r, .int 0, .int 0]) := (HH_lo g ha har).trans hga
    have e2 := HH_r g (N := 20) (i := 20) hr
    rw [Rn_iload_n (k := 1) rfl dX3_init_25]
    simp only [Rn_aload_n (k := 0) rfl dX3_init_0, Rn_inObj (d := dX3_init_1) ml_3_3, Rn_aload_n (k := 0) rfl dX3_init_4, Rn_bipush (v := (20)) rfl dX3_init_5, Rn_anewarray cl_3_9 dX3_init_7, Rn_putfieldR (ini := true) fl_3_11 rfl rfl dX3_init_10, Rn_aload_n (k := 0) rfl dX3_init_13, Rn_iconst (v := (0)) rfl dX3_init_14, Rn_putfieldI (ini := true) fl_3_17 rfl rfl dX3_init_15, Rn_aload_n (k := 0) rfl dX3_init_18, Rn_iconst (v := (0)) rfl dX3_init_19, Rn_putfieldI (ini := true) fl_3_21 rfl rfl dX3_init_20, Rn_iconst (v := (0)) rfl dX3_init_23, Rn_istore_n (k := 1) (nL := 2) rfl rfl dX3_init_24, Rn_aload_n (k := 0) rfl dX3_init_26, Rn_getfield fl_3_11 dX3_init_27, Rn_arraylength dX3_init_30, Rn_icmp_ge (t := 53) rfl dX3_init_31, Rn_aload_n (k := 0) rfl dX3_init_34, Rn_getfield fl_3_11 dX3_init_35, Rn_iload_n (k := 1) rfl dX3_init_38, Rn_new cl_3_9 rfl dX3_init_39, Rn_dup_int dX3_init_42, Rn_dup_ref dX3_init_42, Rn_inI0 (d := dX3_init_43) ml_3_24 rfl, Rn_aastore dX3_init_46, Rn_iinc (nL := 2) rfl dX3_init_47, Rn_goto (t := 25) rfl dX3_init_50, Rn_return rfl dX3_init_53, Option.bind_some, Option.bind_none, Nat.reduceAdd, Nat.reduceBEq, Nat.reduceEqDiff, lk_nil, lk_cons, lk_pt1, lk_pt2, lk_pt2b, isJ_i, isJ_r, isJ_l, gI_i, gJ_i, gR_i, Bool.false_eq_true, if_true, if_false, ite_true, ite_false, reduceIte, len4_0, len4_1, len4_2, len4_3, len4_4, Option.toList_some, Option.toList_none, List.cons_append, List.nil_append, gf_o, isO_o, pf_o, List.length_cons, List.length_nil, List.getElem?_cons_zero, List.getElem?_cons_succ, List.set_cons_zero, List.set_cons_succ, va_rf_s, up_self, rdi_a, rdi_5, rdi_0, rdi_4, wri_a, rdl_a, wrl_a, rdr_a, wrr_a, aln_0, aln_1, aln_3, aln_4, aln_5, ofI_1, ofI_m1, k0, k1, e1, e2, hc]
  | succ m ih =>
    intro i l hi k0 k1
    have hlt : i < 20 := by omega
    have hc : ¬ Int32.ofNat 20 ≤ nI i := nI_ge (b := 20) hlt (by decide)
    have hb : 0 ≤ nI i := nI_pos' (by omega)
    have hcl : (nI i).toNatClampNeg = i := nI_clamp (by omega)
    have e1 : HH g r 20 b i a = .inr (3, [.ref r, .int 0, .int 0]) := (HH_lo g ha har).trans hga
    have e2 := HH_r g (N := 20) (i := i) hr
    have e := s_State d (b + 5 * i) (z + 99 * i + 5) (HH g r 20 b i) (by omega) ((HH_lo g (by omega) (by omega)).trans h1)
    rw [← putL_one] at e
    have := ih (i + 1) (pt1 1 (.int (nI (i + 1))) l) (by omega) (by simp [Option.bind_some, Option.bind_none, Nat.reduceAdd, Nat.reduceBEq, Nat.reduceEqDiff, lk_nil, lk_cons, lk_pt1, lk_pt2, lk_pt2b, isJ_i, isJ_r, isJ_l, gI_i, gJ_i, gR_i, Bool.false_eq_true, if_true, if_false, ite_true, ite_false, reduceIte, len4_0, len4_1, len4_2, len4_3, len4_4, Option.toList_some, Option.toList_none, List.cons_append, List.nil_append, gf_o, isO_o, pf_o, List.length_cons, List.length_nil, List.getElem?_cons_zero, List.getElem?_cons_succ, List.set_cons_zero, List.set_cons_succ, va_rf_s, up_self, rdi_a, rdi_5, rdi_0, rdi_4, wri_a, rdl_a, wrl_a, rdr_a, wrr_a, aln_0, aln_1, aln_3, aln_4, aln_5, ofI_1, ofI_m1, k0]) (by simp [Option.bind_some, Option.bind_none, Nat.reduceAdd, Nat.reduceBEq, Nat.reduceEqDiff, lk_nil, lk_cons, lk_pt1, lk_pt2, lk_pt2b, isJ_i, isJ_r, isJ_l, gI_i, gJ_i, gR_i, Bool.false_eq_true, if_true, if_false, ite_true, ite_false, reduceIte, len4_0, len4_1, len4_2, len4_3, len4_4, Option.toList_some, Option.toList_none, List.cons_append, List.nil_append, gf_o, isO_o, pf_o, List.length_cons, List.length_nil, List.getElem?_cons_zero, List.getElem?_cons_succ, List.set_cons_zero, List.set_cons_succ, va_rf_s, up_self, rdi_a, rdi_5, rdi_0, rdi_4, wri_a, rdl_a, wrl_a, rdr_a, wrr_a, aln_0, aln_1, aln_3, aln_4, aln_5, ofI_1, ofI_m1])
    rw [← this, Rn_iload_n (k := 1) rfl dX3_init_25]
    simp only [Rn_aload_n (k := 0) rfl dX3_init_0, Rn_inObj (d := dX3_init_1) ml_3_3, Rn_aload_n (k := 0) rfl dX3_init_4, Rn_bipush (v := (20)) rfl dX3_init_5, Rn_anewarray cl_3_9 dX3_init_7, Rn_putfieldR (ini := true) fl_3_11 rfl rfl dX3_init_10, Rn_aload_n (k := 0) rfl dX3_init_13, Rn_iconst (v := (0)) rfl dX3_init_14, Rn_putfieldI (ini := true) fl_3_17 rfl rfl dX3_init_15, Rn_aload_n (k := 0) rfl dX3_init_18, Rn_iconst (v := (0)) rfl dX3_init_19, Rn_putfieldI (ini := true) fl_3_21 rfl rfl dX3_init_20, Rn_iconst (v := (0)) rfl dX3_init_23, Rn_istore_n (k := 1) (nL := 2) rfl rfl dX3_init_24, Rn_aload_n (k := 0) rfl dX3_init_26, Rn_getfield fl_3_11 dX3_init_27, Rn_arraylength dX3_init_30, Rn_icmp_ge (t := 53) rfl dX3_init_31, Rn_aload_n (k := 0) rfl dX3_init_34, Rn_getfield fl_3_11 dX3_init_35, Rn_iload_n (k := 1) rfl dX3_init_38, Rn_new cl_3_9 rfl dX3_init_39, Rn_dup_int dX3_init_42, Rn_dup_ref dX3_init_42, Rn_inI0 (d := dX3_init_43) ml_3_24 rfl, Rn_aastore dX3_init_46, Rn_iinc (nL := 2) rfl dX3_init_47, Rn_goto (t := 25) rfl dX3_init_50, Rn_return rfl dX3_init_53, Option.bind_some, Option.bind_none, Nat.reduceAdd, Nat.reduceBEq, Nat.reduceEqDiff, lk_nil, lk_cons, lk_pt1, lk_pt2, lk_pt2b, isJ_i, isJ_r, isJ_l, gI_i, gJ_i, gR_i, Bool.false_eq_true, if_true, if_false, ite_true, ite_false, reduceIte, len4_0, len4_1, len4_2, len4_3, len4_4, Option.toList_some, Option.toList_none, List.cons_append, List.nil_append, gf_o, isO_o, pf_o, List.length_cons, List.length_nil, List.getElem?_cons_zero, List.getElem?_cons_succ, List.set_cons_zero, List.set_cons_succ, va_rf_s, up_self, rdi_a, rdi_5, rdi_0, rdi_4, wri_a, rdl_a, wrl_a, rdr_a, wrr_a, aln_0, aln_1, aln_3, aln_4, aln_5, ofI_1, ofI_m1, k0, k1, e1, e2, hc, hb, hcl, hlt, and_self, NXs, e, putL_get0, putL_lo _ _ (show r < b + 5 * i by omega), HH_next g hr, nI_1]
    rw [show b + 5 * i + 5 = b + 5 * (i + 1) by omega, show z + 99 * i + 5 + 94 = z + 99 * (i + 1) by omega]
set_option maxHeartbeats 4000000 in
set_option maxRecDepth 100000 in
theorem s_History (d a z : Nat) (f : Nat → AC) (h8 : 8 ≤ a) (h1 : f 1 = .inl (5, 5, .inl mof)) :
    X (d + 2) 23 [.ref a] (a + 1, z, putL f a [.inr (3, dfs 3)]) = some (none, (a + 102, z + 2000, HH (putL f a [.inr (3, [.ref (a + 1), .int 0, .int 0])]) (a + 1) 20 (a + 2) 20)) := by
  have h1a : 1 < a := by omega
  have e := s_History_loop d a (a + 1) (a + 2) (z + 20) (putL f a [.inr (3, [.ref (a + 1), .int 0, .int 0])]) h8 (by omega) (by omega) (by omega) (by omega) (putL_get0 _ _ _ _) (by rw [putL_lo _ _ h1a]; exact h1) 20 0 (pt1 1 (.int 0) [(0, .ref a)]) rfl (by simp [Option.bind_some, Option.bind_none, Nat.reduceAdd, Nat.reduceBEq, Nat.reduceEqDiff, lk_nil, lk_cons, lk_pt1, lk_pt2, lk_pt2b, isJ_i, isJ_r, isJ_l, gI_i, gJ_i, gR_i, Bool.false_eq_true, if_true, if_false, ite_true, ite_false, reduceIte, len4_0, len4_1, len4_2, len4_3, len4_4, Option.toList_some, Option.toList_none, List.cons_append, List.nil_append, gf_o, isO_o, pf_o, List.length_cons, List.length_nil, List.getElem?_cons_zero, List.getElem?_cons_succ, List.set_cons_zero, List.set_cons_succ, va_rf_s, up_self, rdi_a, rdi_5, rdi_0, rdi_4, wri_a, rdl_a, wrl_a, rdr_a, wrr_a, aln_0, aln_1, aln_3, aln_4, aln_5, ofI_1, ofI_m1]) (by simp [Option.bind_some, Option.bind_none, Nat.reduceAdd, Nat.reduceBEq, Nat.reduceEqDiff, lk_nil, lk_cons, lk_pt1, lk_pt2, lk_pt2b, isJ_i, isJ_r, isJ_l, gI_i, gJ_i, gR_i, Bool.false_eq_true, if_true, if_false, ite_true, ite_false, reduceIte, len4_0, len4_1, len4_2, len4_3, len4_4, Option.toList_some, Option.toList_none, List.cons_append, List.nil_append, gf_o, isO_o, pf_o, List.length_cons, List.length_nil, List.getElem?_cons_zero, List.getElem?_cons_succ, List.set_cons_zero, List.set_cons_succ, va_rf_s, up_self, rdi_a, rdi_5, rdi_0, rdi_4, wri_a, rdl_a, wrl_a, rdr_a, wrr_a, aln_0, aln_1, aln_3, aln_4, aln_5, ofI_1, ofI_m1, nI_0])
  have e0 : HH (putL f a [.inr (3, [.ref (a + 1), .int 0, .int 0])]) (a + 1) 20 (a + 2) 0 = putL f a [.inr (3, [.ref (a + 1), .int 0, .int 0]), .inl (3, 20, .inr (.inr (.inr (.inr (fun _ => none)))))] := by
    unfold HH
    have : statesL (a + 2) 0 = [] := rfl
    rw [this, putL_push _ _ _ _ _ (by simp)]
    have : rowS (a + 2) 0 = fun _ => none := by
      funext j
      simp [rowS]
    rw [this, putL_nil]
    rfl
  rw [e0] at e
  rw [Xe_X3_init]
  simp [Rn_aload_n (k := 0) rfl dX3_init_0, Rn_inObj (d := dX3_init_1) ml_3_3, Rn_aload_n (k := 0) rfl dX3_init_4, Rn_bipush (v := (20)) rfl dX3_init_5, Rn_anewarray cl_3_9 dX3_init_7, Rn_putfieldR (ini := true) fl_3_11 rfl rfl dX3_init_10, Rn_aload_n (k := 0) rfl dX3_init_13, Rn_iconst (v := (0)) rfl dX3_init_14, Rn_putfieldI (ini := true) fl_3_17 rfl rfl dX3_init_15, Rn_aload_n (k := 0) rfl dX3_init_18, Rn_iconst (v := (0)) rfl dX3_init_19, Rn_putfieldI (ini := true) fl_3_21 rfl rfl dX3_init_20, Rn_iconst (v := (0)) rfl dX3_init_23, Rn_istore_n (k := 1) (nL := 2) rfl rfl dX3_init_24, Option.bind_some, Option.bind_none, Nat.reduceAdd, Nat.reduceBEq, Nat.reduceEqDiff, lk_nil, lk_cons, lk_pt1, lk_pt2, lk_pt2b, isJ_i, isJ_r, isJ_l, gI_i, gJ_i, gR_i, Bool.false_eq_true, if_true, if_false, ite_true, ite_false, reduceIte, len4_0, len4_1, len4_2, len4_3, len4_4, Option.toList_some, Option.toList_none, List.cons_append, List.nil_append, gf_o, isO_o, pf_o, List.length_cons, List.length_nil, List.getElem?_cons_zero, List.getElem?_cons_succ, List.set_cons_zero, List.set_cons_succ, va_rf_s, up_self, rdi_a, rdi_5, rdi_0, rdi_4, wri_a, rdl_a, wrl_a, rdr_a, wrr_a, aln_0, aln_1, aln_3, aln_4, aln_5, ofI_1, ofI_m1, h8, h1a, dfs, putL_get0, putL_set0, putL_get, putL_set, putL_push]
  exact e

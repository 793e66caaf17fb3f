/-! constructors of trees -/
theorem putL_self {f : Nat → AC} {a : Nat} {l : List AC} (h : ∀ i, i < l.length → f (a + i) = l.getD i junk) : putL f a l = f := by
  funext k
  unfold putL
  by_cases hk : a ≤ k ∧ k < a + l.length
  · rw [if_pos hk]
    have := h (k - a) (by omega)
    rw [show a + (k - a) = k by omega] at this
    exact this.symm
  · rw [if_neg hk]
theorem fillF_0 (k : Nat) : fillF 0 k (fun _ => 0) = fun _ => 0 := by
  funext i
  unfold fillF
  by_cases h : i < k <;> simp [h]
set_option maxHeartbeats 4000000 in
set_option maxRecDepth 100000 in
theorem s_Grammar (d a z : Nat) (f : Nat → AC) (h8 : 8 ≤ a) :
    X (d + 2) 2 [.ref a] (a + 1, z, putL f a [.inr (1, dfs 1)]) = some (none, (a + 3, z + 1609, putL f a [.inr (1, [.ref (a + 1), .int 0]), .inr (6, [.ref (a + 2), .int 0, .int 0, .int 0, .int 0, .int (-1), .int 0, .int 0, .int (-1)]), zI 1600])) := by
  rw [Xe_X1_init]
  have e := s_Reader d (a + 1) (z + 9) (putL f a [.inr (1, dfs 1)]) (by omega)
  rw [← putL_one, putL_push _ _ _ _ _ (by simp), putL_putL _ _ _ _ _ (by simp)] at e
  simp [dfs] at e
  simp [Rn_aload_n (k := 0) rfl dX1_init_0, Rn_inObj (d := dX1_init_1) ml_1_3, Rn_aload_n (k := 0) rfl dX1_init_4, Rn_new cl_1_9 rfl dX1_init_5, Rn_dup_int dX1_init_8, Rn_dup_ref dX1_init_8, Rn_inI0 (d := dX1_init_9) ml_1_11 rfl, Rn_putfieldR (ini := true) fl_1_12 rfl rfl dX1_init_12, Rn_aload_n (k := 0) rfl dX1_init_15, Rn_iconst (v := (0)) rfl dX1_init_16, Rn_putfieldI (ini := true) fl_1_18 rfl rfl dX1_init_17, Rn_return rfl dX1_init_20, Option.bind_some, Option.bind_none, Nat.reduceAdd, Nat.reduceBEq, Nat.reduceEqDiff, lk_nil, lk_cons, lk_pt1, lk_pt2, lk_pt2b, isJ_i, isJ_r, isJ_l, gI_i, gJ_i, gR_i, Bool.false_eq_true, if_true, if_false, ite_true, ite_false, reduceIte, len4_0, len4_1, len4_2, len4_3, len4_4, Option.toList_some, Option.toList_none, List.cons_append, List.nil_append, gf_o, isO_o, pf_o, List.length_cons, List.length_nil, List.getElem?_cons_zero, List.getElem?_cons_succ, List.set_cons_zero, List.set_cons_succ, va_rf_s, up_self, rdi_a, rdi_5, rdi_0, rdi_4, wri_a, rdl_a, wrl_a, rdr_a, wrr_a, aln_0, aln_1, aln_3, aln_4, aln_5, ofI_1, ofI_m1, h8, dfs, nwa, putL_get0, putL_set0, putL_get, putL_set, putL_push, NXs, e]
set_option maxHeartbeats 4000000 in
set_option maxRecDepth 100000 in
theorem s_TownReader (d a z : Nat) (f : Nat → AC) (h8 : 8 ≤ a) :
    X (d + 3) 78 [.ref a] (a + 1, z, putL f a [.inr (10, dfs 10)]) = some (none, (a + 4, z + 1611, putL f a [.inr (10, [.ref (a + 1), .ref (a + 2)]), .inr (1, [.ref (a + 2), .int 0]), .inr (6, [.ref (a + 3), .int 0, .int 0, .int 0, .int 0, .int (-1), .int 0, .int 0, .int (-1)]), zI 1600])) := by
  rw [Xe_X10_init]
  have e := s_Grammar d (a + 1) (z + 2) (putL f a [.inr (10, dfs 10)]) (by omega)
  rw [← putL_one, putL_push _ _ _ _ _ (by simp), putL_putL _ _ _ _ _ (by simp)] at e
  simp [dfs] at e
  simp [Rn_aload_n (k := 0) rfl dX10_init_0, Rn_inObj (d := dX10_init_1) ml_10_3, Rn_aload_n (k := 0) rfl dX10_init_4, Rn_new cl_10_9 rfl dX10_init_5, Rn_dup_int dX10_init_8, Rn_dup_ref dX10_init_8, Rn_inI0 (d := dX10_init_9) ml_10_11 rfl, Rn_putfieldR (ini := true) fl_10_12 rfl rfl dX10_init_12, Rn_aload_n (k := 0) rfl dX10_init_15, Rn_aload_n (k := 0) rfl dX10_init_16, Rn_getfield fl_10_12 dX10_init_17, Rn_getfield fl_10_18 dX10_init_20, Rn_putfieldR (ini := true) fl_10_22 rfl rfl dX10_init_23, Rn_return rfl dX10_init_26, Option.bind_some, Option.bind_none, Nat.reduceAdd, Nat.reduceBEq, Nat.reduceEqDiff, lk_nil, lk_cons, lk_pt1, lk_pt2, lk_pt2b, isJ_i, isJ_r, isJ_l, gI_i, gJ_i, gR_i, Bool.false_eq_true, if_true, if_false, ite_true, ite_false, reduceIte, len4_0, len4_1, len4_2, len4_3, len4_4, Option.toList_some, Option.toList_none, List.cons_append, List.nil_append, gf_o, isO_o, pf_o, List.length_cons, List.length_nil, List.getElem?_cons_zero, List.getElem?_cons_succ, List.set_cons_zero, List.set_cons_succ, va_rf_s, up_self, rdi_a, rdi_5, rdi_0, rdi_4, wri_a, rdl_a, wrl_a, rdr_a, wrr_a, aln_0, aln_1, aln_3, aln_4, aln_5, ofI_1, ofI_m1, h8, dfs, nwa, putL_get0, putL_set0, putL_get, putL_set, putL_push, NXs, e]
/-- a TOWN's cells, from t on -/
abbrev townL (t : Nat) (st : Int32) (cn nm nt lv kn ea en mc : Nat → Int32) (cs : Int32) (sp fr to_ : Nat → Int32) (bk ev wh bc : Int32) : List AC :=
  [.inr (9, [.int st, .ref (t + 1), .ref (t + 2), .ref (t + 3), .ref (t + 4), .ref (t + 5), .ref (t + 6), .ref (t + 7), .ref (t + 8), .ref (t + 9), .ref (t + 11), .ref (t + 12), .int bk, .int ev, .int wh, .int bc]),
   .inl (1, 5, .inl cn), .inl (1, 40, .inl nm), .inl (1, 32, .inl nt), .inl (1, 6, .inl lv), .inl (1, 6, .inl kn), .inl (1, 16, .inl ea), .inl (1, 16, .inl en), .inl (1, 16, .inl mc),
   .inr (0, [.ref (t + 10), .int cs]), .inl (1, 1600, .inl sp), .inl (1, 8, .inl fr), .inl (1, 8, .inl to_)]
set_option maxHeartbeats 4000000 in
set_option maxRecDepth 100000 in
theorem s_clear (d t n z : Nat) (f : Nat → AC) (h8 : 8 ≤ t) (st : Int32) (cn nm nt lv kn ea en mc : Nat → Int32) (cs : Int32) (sp fr to_ : Nat → Int32) (bk ev wh bc : Int32) :
    X (d + 2) 71 [.ref t] (n, z, putL f t (townL t st cn nm nt lv kn ea en mc cs sp fr to_ bk ev wh bc)) = some (none, (n, z, putL f t (townL t 0 (fillF 0 5 cn) nm nt lv kn ea en mc 0 sp (fillF 0 8 fr) (fillF 0 8 to_) 5 18 0 bc))) := by
  have h9 : 8 ≤ t + 9 := by omega
  rw [Xe_X9_clear]
  simp [Rn_aload_n (k := 0) rfl dX9_clear_0, Rn_iconst (v := (0)) rfl dX9_clear_1, Rn_putfieldI (ini := false) fl_9_55 rfl rfl dX9_clear_2, Rn_aload_n (k := 0) rfl dX9_clear_5, Rn_getfield fl_9_13 dX9_clear_6, Rn_iconst (v := (0)) rfl dX9_clear_9, Rn_inS2 (d := dX9_clear_10) ml_9_59 rfl, Rn_aload_n (k := 0) rfl dX9_clear_13, Rn_getfield fl_9_42 dX9_clear_14, Rn_iconst (v := (0)) rfl dX9_clear_17, Rn_putfieldI (ini := false) fl_9_65 rfl rfl dX9_clear_18, Rn_aload_n (k := 0) rfl dX9_clear_21, Rn_getfield fl_9_46 dX9_clear_22, Rn_iconst (v := (0)) rfl dX9_clear_25, Rn_inS2 (d := dX9_clear_26) ml_9_59 rfl, Rn_aload_n (k := 0) rfl dX9_clear_29, Rn_getfield fl_9_49 dX9_clear_30, Rn_iconst (v := (0)) rfl dX9_clear_33, Rn_inS2 (d := dX9_clear_34) ml_9_59 rfl, Rn_aload_n (k := 0) rfl dX9_clear_37, Rn_iconst (v := (5)) rfl dX9_clear_38, Rn_putfieldI (ini := false) fl_9_68 rfl rfl dX9_clear_39, Rn_aload_n (k := 0) rfl dX9_clear_42, Rn_bipush (v := (18)) rfl dX9_clear_43, Rn_putfieldI (ini := false) fl_9_71 rfl rfl dX9_clear_45, Rn_aload_n (k := 0) rfl dX9_clear_48, Rn_iconst (v := (0)) rfl dX9_clear_49, Rn_putfieldI (ini := false) fl_9_74 rfl rfl dX9_clear_50, Rn_return rfl dX9_clear_53, Option.bind_some, Option.bind_none, Nat.reduceAdd, Nat.reduceBEq, Nat.reduceEqDiff, lk_nil, lk_cons, lk_pt1, lk_pt2, lk_pt2b, isJ_i, isJ_r, isJ_l, gI_i, gJ_i, gR_i, Bool.false_eq_true, if_true, if_false, ite_true, ite_false, reduceIte, len4_0, len4_1, len4_2, len4_3, len4_4, Option.toList_some, Option.toList_none, List.cons_append, List.nil_append, gf_o, isO_o, pf_o, List.length_cons, List.length_nil, List.getElem?_cons_zero, List.getElem?_cons_succ, List.set_cons_zero, List.set_cons_succ, va_rf_s, up_self, rdi_a, rdi_5, rdi_0, rdi_4, wri_a, rdl_a, wrl_a, rdr_a, wrr_a, aln_0, aln_1, aln_3, aln_4, aln_5, ofI_1, ofI_m1, h8, h9, putL_get0, putL_set0, putL_get, putL_set, s_fill _ _ _ _ 5 _ _ cn, s_fill _ _ _ _ 8 _ _ fr, s_fill _ _ _ _ 8 _ _ to_]

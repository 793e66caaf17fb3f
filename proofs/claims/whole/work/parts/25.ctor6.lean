/-! MoodBread(), whole -/
theorem dfs_11 : dfs 11 = [.null, .null, .null, .null, .int 0, .null, .null, .null, .null, .null, .null, .null, .null, .null, .null, .long 0, .null] := rfl
theorem Tr_nil (w : Nat → AC) (a : Nat) : Tr w a [] ↔ True := ⟨fun _ => trivial, fun _ i hi => absurd hi (Nat.not_lt_zero i)⟩
theorem Tr_cons (w : Nat → AC) (a : Nat) (c : AC) (l : List AC) : Tr w a (c :: l) ↔ w a = c ∧ Tr w (a + 1) l := by
  constructor
  · intro h
    refine ⟨h 0 (by simp), fun i hi => ?_⟩
    have := h (i + 1) (by simpa using hi)
    rw [show a + 1 + i = a + (i + 1) by omega, this]
    rfl
  · rintro ⟨h1, h2⟩ i hi
    cases i with
    | zero => exact h1
    | succ i =>
      have := h2 i (by simpa using hi)
      rw [show a + (i + 1) = a + 1 + i by omega, this]
      rfl
set_option maxHeartbeats 8000000 in
set_option maxRecDepth 100000 in
theorem s_MB (d z : Nat) (f : Nat → AC) (h1 : f 1 = .inl (5, 5, .inl mof)) :
    ∃ w, X (d + 4) 89 [.ref 8] (9, z, up f 8 (.inr (11, dfs 11))) = some (none, (218, z + 13426, w)) ∧ mbF f w := by
  rw [Xe_X11_init]
  simp [Rn_aload_n (k := 0) rfl dX11_init_0, Rn_inObj (d := dX11_init_1) ml_11_1, Rn_aload_n (k := 0) rfl dX11_init_4, Rn_new cl_11_7 rfl dX11_init_5, Rn_dup_int dX11_init_8, Rn_dup_ref dX11_init_8, Rn_inI0 (d := dX11_init_9) ml_11_9 rfl, Rn_putfieldR (ini := true) fl_11_10 rfl rfl dX11_init_12, Rn_aload_n (k := 0) rfl dX11_init_15, Rn_aload_n (k := 0) rfl dX11_init_16, Rn_getfield fl_11_10 dX11_init_17, Rn_getfield fl_11_16 dX11_init_20, Rn_putfieldR (ini := true) fl_11_20 rfl rfl dX11_init_23, Rn_aload_n (k := 0) rfl dX11_init_26, Rn_aload_n (k := 0) rfl dX11_init_27, Rn_getfield fl_11_20 dX11_init_28, Rn_getfield fl_11_21 dX11_init_31, Rn_putfieldR (ini := true) fl_11_27 rfl rfl dX11_init_34, Rn_aload_n (k := 0) rfl dX11_init_37, Rn_aload_n (k := 0) rfl dX11_init_38, Rn_getfield fl_11_27 dX11_init_39, Rn_getfield fl_11_28 dX11_init_42, Rn_putfieldR (ini := true) fl_11_34 rfl rfl dX11_init_45, Rn_aload_n (k := 0) rfl dX11_init_48, Rn_iconst (v := (0)) rfl dX11_init_49, Rn_putfieldI (ini := true) fl_11_37 rfl rfl dX11_init_50, Rn_aload_n (k := 0) rfl dX11_init_53, Rn_new cl_11_41 rfl dX11_init_54, Rn_dup_int dX11_init_57, Rn_dup_ref dX11_init_57, Rn_inI0 (d := dX11_init_58) ml_11_43 rfl, Rn_putfieldR (ini := true) fl_11_44 rfl rfl dX11_init_61, Rn_aload_n (k := 0) rfl dX11_init_64, Rn_new cl_11_48 rfl dX11_init_65, Rn_dup_int dX11_init_68, Rn_dup_ref dX11_init_68, Rn_inI0 (d := dX11_init_69) ml_11_50 rfl, Rn_putfieldR (ini := true) fl_11_51 rfl rfl dX11_init_72, Rn_aload_n (k := 0) rfl dX11_init_75, Rn_new cl_11_48 rfl dX11_init_76, Rn_dup_int dX11_init_79, Rn_dup_ref dX11_init_79, Rn_inI0 (d := dX11_init_80) ml_11_50 rfl, Rn_putfieldR (ini := true) fl_11_55 rfl rfl dX11_init_83, Rn_aload_n (k := 0) rfl dX11_init_86, Rn_new cl_11_58 rfl dX11_init_87, Rn_dup_int dX11_init_90, Rn_dup_ref dX11_init_90, Rn_inI0 (d := dX11_init_91) ml_11_60 rfl, Rn_putfieldR (ini := true) fl_11_61 rfl rfl dX11_init_94, Rn_aload_n (k := 0) rfl dX11_init_97, Rn_new cl_11_65 rfl dX11_init_98, Rn_dup_int dX11_init_101, Rn_dup_ref dX11_init_101, Rn_inI0 (d := dX11_init_102) ml_11_67 rfl, Rn_putfieldR (ini := true) fl_11_68 rfl rfl dX11_init_105, Rn_aload_n (k := 0) rfl dX11_init_108, Rn_new cl_11_65 rfl dX11_init_109, Rn_dup_int dX11_init_112, Rn_dup_ref dX11_init_112, Rn_inI0 (d := dX11_init_113) ml_11_67 rfl, Rn_putfieldR (ini := true) fl_11_72 rfl rfl dX11_init_116, Rn_aload_n (k := 0) rfl dX11_init_119, Rn_bipush (v := (9)) rfl dX11_init_120, Rn_anewarray cl_11_65 dX11_init_122, Rn_putfieldR (ini := true) fl_11_75 rfl rfl dX11_init_125, Rn_aload_n (k := 0) rfl dX11_init_128, Rn_new cl_11_79 rfl dX11_init_129, Rn_dup_int dX11_init_132, Rn_dup_ref dX11_init_132, Rn_inI0 (d := dX11_init_133) ml_11_81 rfl, Rn_putfieldR (ini := true) fl_11_82 rfl rfl dX11_init_136, Rn_aload_n (k := 0) rfl dX11_init_139, Rn_new cl_11_86 rfl dX11_init_140, Rn_dup_int dX11_init_143, Rn_dup_ref dX11_init_143, Rn_inI0 (d := dX11_init_144) ml_11_88 rfl, Rn_putfieldR (ini := true) fl_11_89 rfl rfl dX11_init_147, Rn_aload_n (k := 0) rfl dX11_init_150, Rn_new cl_11_93 rfl dX11_init_151, Rn_dup_int dX11_init_154, Rn_dup_ref dX11_init_154, Rn_inI0 (d := dX11_init_155) ml_11_95 rfl, Rn_putfieldR (ini := true) fl_11_96 rfl rfl dX11_init_158, Rn_aload_n (k := 0) rfl dX11_init_161, Rn_lconst (v := 1) rfl dX11_init_162, Rn_putfieldJ (ini := true) fl_11_100 rfl rfl dX11_init_163, Rn_aload_n (k := 0) rfl dX11_init_166, Rn_bipush (v := (6)) rfl dX11_init_167, Rn_newarray dX11_init_169, Rn_putfieldR (ini := true) fl_11_104 rfl rfl dX11_init_171, Rn_iconst (v := (0)) rfl dX11_init_174, Rn_istore_n (k := 1) (nL := 2) rfl rfl dX11_init_175, Option.bind_some, Option.bind_none, Nat.reduceAdd, Nat.reduceBEq, Nat.reduceEqDiff, lk_nil, lk_cons, lk_pt1, lk_pt2, lk_pt2b, isJ_i, isJ_r, isJ_l, gI_i, gJ_i, gR_i, Bool.false_eq_true, if_true, if_false, ite_true, ite_false, reduceIte, len4_0, len4_1, len4_2, len4_3, len4_4, Option.toList_some, Option.toList_none, List.cons_append, List.nil_append, gf_o, isO_o, pf_o, List.length_cons, List.length_nil, List.getElem?_cons_zero, List.getElem?_cons_succ, List.set_cons_zero, List.set_cons_succ, va_rf_s, up_self, rdi_a, rdi_5, rdi_0, rdi_4, wri_a, rdl_a, wrl_a, rdr_a, wrr_a, aln_0, aln_1, aln_3, aln_4, aln_5, ofI_1, ofI_m1, dfs_11, nwa, u_TownReader (d) 9, u_Code (d + 2) 13, u_Town d 15, u_Town d 28, u_Life (d + 1) 41, u_State (d + 2) 44, u_State (d + 2) 49, u_History (d + 1) 55, u_Guesses d 157, u_Image (d + 2) 170, NXs, putL_lo, putL_hi, putL_get, HH_lo, HH_hi, up_ne, h1]
  rw [show z + 2 + 1611 + 2 + 1600 + 16 + 1755 + 16 + 1755 + 1 + 69 + 5 + 94 + 5 + 94 + 9 + 3 + 2000 + 8 + 3385 + 2 + 97 + 6 = z + 12535 by omega]
  refine s_MB_fin (d + 2) (z + 12535) f _ _ ?_ ?_ ?_ ?_ ?_ ?_ ?_ ?_ ?_ ?_ ?_
  · simp [Option.bind_some, Option.bind_none, Nat.reduceAdd, Nat.reduceBEq, Nat.reduceEqDiff, lk_nil, lk_cons, lk_pt1, lk_pt2, lk_pt2b, isJ_i, isJ_r, isJ_l, gI_i, gJ_i, gR_i, Bool.false_eq_true, if_true, if_false, ite_true, ite_false, reduceIte, len4_0, len4_1, len4_2, len4_3, len4_4, Option.toList_some, Option.toList_none, List.cons_append, List.nil_append, gf_o, isO_o, pf_o, List.length_cons, List.length_nil, List.getElem?_cons_zero, List.getElem?_cons_succ, List.set_cons_zero, List.set_cons_succ, va_rf_s, up_self, rdi_a, rdi_5, rdi_0, rdi_4, wri_a, rdl_a, wrl_a, rdr_a, wrr_a, aln_0, aln_1, aln_3, aln_4, aln_5, ofI_1, ofI_m1]
  · simp [Option.bind_some, Option.bind_none, Nat.reduceAdd, Nat.reduceBEq, Nat.reduceEqDiff, lk_nil, lk_cons, lk_pt1, lk_pt2, lk_pt2b, isJ_i, isJ_r, isJ_l, gI_i, gJ_i, gR_i, Bool.false_eq_true, if_true, if_false, ite_true, ite_false, reduceIte, len4_0, len4_1, len4_2, len4_3, len4_4, Option.toList_some, Option.toList_none, List.cons_append, List.nil_append, gf_o, isO_o, pf_o, List.length_cons, List.length_nil, List.getElem?_cons_zero, List.getElem?_cons_succ, List.set_cons_zero, List.set_cons_succ, va_rf_s, up_self, rdi_a, rdi_5, rdi_0, rdi_4, wri_a, rdl_a, wrl_a, rdr_a, wrr_a, aln_0, aln_1, aln_3, aln_4, aln_5, ofI_1, ofI_m1]
  · simp [putL_lo, HH_lo, up_ne, h1]
  · intro k hk
    simp (disch := omega) only [putL_lo, HH_lo, up_ne]
  · simp [Tr_cons, Tr_nil, putL_lo, putL_hi, putL_get, HH_lo, HH_hi, up_ne, up_self]
  · simp [putL_lo, putL_hi, putL_get, HH_lo, HH_hi, up_ne, up_self]
  · simp [putL_lo, putL_hi, putL_get, HH_lo, HH_hi, up_ne, up_self]
  · simp [putL_lo, putL_hi, putL_get, HH_lo, HH_hi, HH_r, up_ne, up_self]
  · intro i hi j hj
    have hj : j < 5 := hj
    simp (disch := omega) only [putL_lo, up_ne]
    exact HH_tr _ hi j hj
  · simp [Tr_cons, Tr_nil, putL_lo, putL_hi, putL_get, HH_lo, HH_hi, up_ne, up_self]
  · intro k hk
    simp (disch := first | omega | (simp; omega)) only [putL_hi, HH_hi, up_ne]

/-! the system's constructor -/
abbrev sumsC (a : Nat) : AC := .inr (8, [.ref a, .int 0, .int 0, .int 0, .int 0])
theorem u_State (d a z : Nat) (f : Nat → AC) (h8 : 8 ≤ a) (h1 : f 1 = .inl (5, 5, .inl mof)) : X (d + 1) 57 [.ref a] (a + 1, z, up f a (.inr (7, dfs 7))) = some (none, (a + 5, z + 94, putL f a (stateL a))) := by
  rw [putL_one]
  exact s_State d a z f h8 h1
theorem u_Code (d a z : Nat) (f : Nat → AC) (h8 : 8 ≤ a) : X (d + 1) 0 [.ref a] (a + 1, z, up f a (.inr (0, dfs 0))) = some (none, (a + 2, z + 1600, putL f a [.inr (0, [.ref (a + 1), .int 0]), zI 1600])) := by
  rw [putL_one]
  exact s_Code d a z f h8
theorem u_Life (d a z : Nat) (f : Nat → AC) (h8 : 8 ≤ a) : X (d + 2) 32 [.ref a] (a + 1, z, up f a (.inr (5, dfs 5))) = some (none, (a + 3, z + 69, putL f a [.inr (5, [.ref (a + 1)]), sumsC (a + 2), zI 64])) := by
  rw [putL_one]
  exact s_Life d a z f h8
theorem u_TownReader (d a z : Nat) (f : Nat → AC) (h8 : 8 ≤ a) : X (d + 3) 78 [.ref a] (a + 1, z, up f a (.inr (10, dfs 10))) = some (none, (a + 4, z + 1611, putL f a [.inr (10, [.ref (a + 1), .ref (a + 2)]), .inr (1, [.ref (a + 2), .int 0]), .inr (6, [.ref (a + 3), .int 0, .int 0, .int 0, .int 0, .int (-1), .int 0, .int 0, .int (-1)]), zI 1600])) := by
  rw [putL_one]
  exact s_TownReader d a z f h8
theorem u_Town (d t z : Nat) (f : Nat → AC) (h8 : 8 ≤ t) (h1 : f 1 = .inl (5, 5, .inl mof)) : X (d + 3) 70 [.ref t] (t + 1, z, up f t (.inr (9, dfs 9))) = some (none, (t + 13, z + 1755, putL f t (townL t 0 z0 z0 z0 z0 z0 z0 z0 z0 0 z0 z0 z0 5 18 0 0))) := by
  rw [putL_one]
  exact s_Town d t z f h8 h1
theorem u_Image (d a z : Nat) (f : Nat → AC) (h8 : 8 ≤ a) : X (d + 1) 26 [.ref a] (a + 1, z, up f a (.inr (4, dfs 4))) = some (none, (a + 2, z + 97, putL f a [.inr (4, [.ref (a + 1), .int 0]), zI 97])) := by
  rw [putL_one]
  exact s_Image d a z f h8
theorem u_History (d a z : Nat) (f : Nat → AC) (h8 : 8 ≤ a) (h1 : f 1 = .inl (5, 5, .inl mof)) : X (d + 2) 23 [.ref a] (a + 1, z, up f a (.inr (3, dfs 3))) = some (none, (a + 102, z + 2000, HH (putL f a [.inr (3, [.ref (a + 1), .int 0, .int 0])]) (a + 1) 20 (a + 2) 20)) := by
  rw [putL_one]
  exact s_History d a z f h8 h1
/-- cells in a row -/
def Tr (w : Nat → AC) (a : Nat) (l : List AC) : Prop := ∀ i, i < l.length → w (a + i) = l.getD i junk
abbrev guesL (a : Nat) : List AC := [.inr (2, [.ref (a + 1), .ref (a + 4), .ref (a + 9), .int 0, .ref (a + 10), .int 0, .ref (a + 11), .ref (a + 12)]), .inr (5, [.ref (a + 2)]), sumsC (a + 3), zI 64] ++ stateL (a + 4) ++ [zI 80, zI 92, zI 2944, zI 100]
set_option maxHeartbeats 4000000 in
set_option maxRecDepth 100000 in
theorem u_Guesses (d a z : Nat) (f : Nat → AC) (h8 : 8 ≤ a) (h1 : f 1 = .inl (5, 5, .inl mof)) : X (d + 3) 14 [.ref a] (a + 1, z, up f a (.inr (2, dfs 2))) = some (none, (a + 13, z + 3385, putL f a (guesL a))) := by
  have h1a : 1 < a := by omega
  rw [Xe_X2_init]
  have e := fun z => u_Life d (a + 1) z (putL f a [.inr (2, dfs 2)]) (by omega)
  have e2 := fun z => u_State (d + 1) (a + 4) z (putL f a [.inr (2, [.ref (a + 1), .null, .null, .int 0, .null, .int 0, .null, .null]), .inr (5, [.ref (a + 2)]), sumsC (a + 3), zI 64]) (by omega) (by rw [putL_lo _ _ h1a]; exact h1)
  simp [dfs, putL_push, putL_putL] at e e2
  rw [putL_one]
  simp [Rn_aload_n (k := 0) rfl dX2_init_0, Rn_inObj (d := dX2_init_1) ml_2_3, Rn_aload_n (k := 0) rfl dX2_init_4, Rn_new cl_2_9 rfl dX2_init_5, Rn_dup_int dX2_init_8, Rn_dup_ref dX2_init_8, Rn_inI0 (d := dX2_init_9) ml_2_11 rfl, Rn_putfieldR (ini := true) fl_2_12 rfl rfl dX2_init_12, Rn_aload_n (k := 0) rfl dX2_init_15, Rn_new cl_2_18 rfl dX2_init_16, Rn_dup_int dX2_init_19, Rn_dup_ref dX2_init_19, Rn_inI0 (d := dX2_init_20) ml_2_20 rfl, Rn_putfieldR (ini := true) fl_2_21 rfl rfl dX2_init_23, Rn_aload_n (k := 0) rfl dX2_init_26, Rn_bipush (v := (80)) rfl dX2_init_27, Rn_newarray dX2_init_29, Rn_putfieldR (ini := true) fl_2_25 rfl rfl dX2_init_31, Rn_aload_n (k := 0) rfl dX2_init_34, Rn_iconst (v := (0)) rfl dX2_init_35, Rn_putfieldI (ini := true) fl_2_29 rfl rfl dX2_init_36, Rn_aload_n (k := 0) rfl dX2_init_39, Rn_bipush (v := (92)) rfl dX2_init_40, Rn_newarray dX2_init_42, Rn_putfieldR (ini := true) fl_2_33 rfl rfl dX2_init_44, Rn_aload_n (k := 0) rfl dX2_init_47, Rn_iconst (v := (0)) rfl dX2_init_48, Rn_putfieldI (ini := true) fl_2_36 rfl rfl dX2_init_49, Rn_aload_n (k := 0) rfl dX2_init_52, Rn_sipush (v := (2944)) rfl dX2_init_53, Rn_newarray dX2_init_56, Rn_putfieldR (ini := true) fl_2_39 rfl rfl dX2_init_58, Rn_aload_n (k := 0) rfl dX2_init_61, Rn_bipush (v := (100)) rfl dX2_init_62, Rn_newarray dX2_init_64, Rn_putfieldR (ini := true) fl_2_42 rfl rfl dX2_init_66, Rn_return rfl dX2_init_69, Option.bind_some, Option.bind_none, Nat.reduceAdd, Nat.reduceBEq, Nat.reduceEqDiff, lk_nil, lk_cons, lk_pt1, lk_pt2, lk_pt2b, isJ_i, isJ_r, isJ_l, gI_i, gJ_i, gR_i, Bool.false_eq_true, if_true, if_false, ite_true, ite_false, reduceIte, len4_0, len4_1, len4_2, len4_3, len4_4, Option.toList_some, Option.toList_none, List.cons_append, List.nil_append, gf_o, isO_o, pf_o, List.length_cons, List.length_nil, List.getElem?_cons_zero, List.getElem?_cons_succ, List.set_cons_zero, List.set_cons_succ, va_rf_s, up_self, rdi_a, rdi_5, rdi_0, rdi_4, wri_a, rdl_a, wrl_a, rdr_a, wrr_a, aln_0, aln_1, aln_3, aln_4, aln_5, ofI_1, ofI_m1, h8, h1a, dfs, nwa, putL_get0, putL_set0, putL_get, putL_set, putL_push, putL_putL, NXs, e, e2]

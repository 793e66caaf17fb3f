/-! a question asked: the class' call -/
noncomputable def askV (g : Int → Int) (k : Nat) (T : TT) (s : Ss) (p : Int) : Int := if 0 ≤ p ∧ p < np T then (match quF g k with
  | .inl (q, cs) => askF q cs T s p (askN s)
  | .inr _ => -1000000000000000) else -1000000000000000
/-- what the class' ask keeps -/
def KQ (M M' : Me) : Prop := (∀ b, ¬ (Jc b ∨ b = 157 ∨ b = 8 ∨ b = 10 ∨ b = 11 ∨ b = 13 ∨ b = 14) → M' b = M b) ∧ M' 157 3 = M 157 3 ∧ SuK M' 41 ∧ SuK M' 158 ∧ (∀ i, ¬ i = 4 → M' 8 i = M 8 i) ∧ M' 8 4 = 0
/-- the fault after it -/
def FQ (g : Int → Int) (k : Nat) (T : TT) (p : Int) (a b a' b' : Int) : Prop := if 0 ≤ p ∧ p < np T then (match quF g k with
  | .inl _ => a' = 0 ∧ b' = -1
  | .inr x => a' = x.1 ∧ b' = x.2) else a' = a ∧ b' = b
section
variable {n z t k : Nat} {T : TT} {s : Ss} {H : Nat → AC} {M : Me}
set_option maxHeartbeats 8000000 in
theorem s_ask (hW : Hw H) (hH : Hk H) (hB : CB M t T s) (wT : wfT T) (wS : wfS T s) (hb : Byt (M 12) k) (hk : k ≤ 1600) (h4 : M 8 4 = k) {p : Int} (p_0 : -2147483648 ≤ p) (p_1 : p < 2147483648) (d : Nat) : ∃ M' : Me, X (d + 77) 117 [.ref 8, .int (jI p)] (n, z, hp H M) = some (some (.long (jL (askV (M 12) k T s p))), (n, z, hp H M')) ∧ KQ M M' ∧ FQ (M 12) k T p (M 11 7) (M 11 8) (M' 11 7) (M' 11 8) := by
  refine ex_of fun G hG => ?_
  obtain ⟨hc, ht, hT, hS, hu1, hu2⟩ := id hB
  obtain ⟨⟨c0, c1, c2, c3, c4⟩, clv, cml, ccd, ⟨cb, cev, cwh⟩, -⟩ := id hT
  obtain ⟨wm, wp, wl, we, wd, wlv, wme, wde, w6, w7, wbk, wev, wwh⟩ := id wT
  have wh := wS.1
  have e0 := hS.1
  have ht9 := a9 ht
  have t9 := a9 ht
  have h8c : (st M 8 4 0 8 6).toNat = t := by rw [st_self, su_ne _ _ (by omega)]; exact hc
  have c1' : st M 8 4 0 (t + 1) 1 = np T := by rw [st_ne _ _ _ (by omega)]; exact c1
  rw [Xe_X11_ask]
  unfold askV at hG
  by_cases q : 0 ≤ p ∧ p < np T
  · rw [if_pos q] at hG
    obtain ⟨v1, M1, e1, F1, P1⟩ := s_readQ (n := n) (z := z) (H := H) (M := st M 8 4 0) (g := M 12) hW hb hk (st_ne _ _ _ (by omega)) d
    have F10 : ∀ b, ¬ (b = 8 ∨ b = 10 ∨ b = 11 ∨ b = 13 ∨ b = 14) → M1 b = M b := fun b hb => by rw [F1 b (by omega), st_ne _ _ _ (by omega)]
    have F8 : M1 8 = su (M 8) 4 0 := by rw [F1 8 (by omega), st_self]
    have z1 : SuK M1 41 := by unfold SuK; rw [F10 _ (by omega)]; exact hu1
    have z2 : SuK M1 158 := by unfold SuK; rw [F10 _ (by omega)]; exact hu2
    rcases hq : quF (M 12) k with ⟨qq, cs⟩ | x
    · rw [hq] at P1 hG
      obtain ⟨rfl, m1, m2, m3, m4⟩ := P1
      obtain ⟨w1, w2, w3⟩ := quF_wf hq
      have hB1 : CB M1 t T s := ⟨by rw [F8, su_ne _ _ (by omega)]; exact hc, ht, TR_keep hT (fun b b0 b1 => F10 b (by omega)), SR_keep hS (fun b b0 b1 => F10 b (by omega)), z1, z2⟩
      obtain ⟨M2, e2, K2⟩ := s_answer (n := n) (z := z) (q := qq) (p := p) (cs := cs) hH hB1 wT wS q.1 q.2 w1 m1 (by omega) m2 w3 (d + 69)
      have r0 := hG M2 ⟨⟨fun b hb => by rw [K2.1 b (fun hx => hb (hx.elim Or.inl fun h => Or.inr (Or.inl h)))]; exact F10 b (by omega), by rw [K2.2.1, F10 157 (by omega)], K2.2.2.1, K2.2.2.2, fun i hi => by rw [K2.1 8 (by unfold Jc; omega), F8, su_ne _ _ hi], by rw [K2.1 8 (by unfold Jc; omega), F8, su_self]⟩, by
        unfold FQ
        rw [if_pos q, hq]
        exact ⟨by rw [K2.1 11 (by unfold Jc; omega)]; exact m3, by rw [K2.1 11 (by unfold Jc; omega)]; exact m4⟩⟩
      simp (disch := omega) only [Rm_aload_n (k := 0) rfl dX11_ask_0, Rm_getfield fl_11_37 dX11_ask_1, Rn_istore_n (k := 2) (nL := 4) rfl rfl dX11_ask_4, Rm_aload_n (k := 0) rfl dX11_ask_5, Rn_iconst (v := jI (0)) rfl dX11_ask_6, Rm_putfieldI (ini := false) fl_11_37 rfl rfl dX11_ask_7, Rm_aload_n (k := 0) rfl dX11_ask_10, Rn_iconst (v := jI (1)) rfl dX11_ask_11, Rm_iload_n (k := 1) rfl dX11_ask_12, Rm_inV2 (d := dX11_ask_13) (hy := mo_124) (h13 := rfl) ml_11_148 rfl, Rn_if_ne (t := 23) rfl dX11_ask_16, Rn_ldc2_w lj_11_263 dX11_ask_19, Rn_lreturn rfl dX11_ask_22, Rm_aload_n (k := 0) rfl dX11_ask_23, Rm_getfield fl_11_20 dX11_ask_24, Rm_iload_n (k := 2) rfl dX11_ask_27, Rm_aload_n (k := 0) rfl dX11_ask_28, Rm_getfield fl_11_44 dX11_ask_29, Rm_inV2 (d := dX11_ask_32) (hy := mo_3) (h13 := rfl) ml_11_265 rfl, Rn_istore_n (k := 3) (nL := 4) rfl rfl dX11_ask_35, Rm_iload_n (k := 3) rfl dX11_ask_36, Rn_iconst (v := jI (-1)) rfl dX11_ask_37, Rn_icmp_ne (t := 47) rfl dX11_ask_38, Rn_ldc2_w lj_11_263 dX11_ask_41, Rn_goto (t := 53) rfl dX11_ask_44, Rm_aload_n (k := 0) rfl dX11_ask_47, Rm_iload_n (k := 3) rfl dX11_ask_48, Rm_iload_n (k := 1) rfl dX11_ask_49, Rm_inV2 (d := dX11_ask_50) (hy := mo_134) (h13 := rfl) ml_11_269 rfl, Rn_lreturn rfl dX11_ask_53, gs11_1 k8, gs11_4 k8, gs11_5 k8, io11 k8, ps11_4 k8, io11 k8, io1 k10, isThere_t _ h8c ht, h4, e1, e2, qI_s, qJ_s, qR_s, qV_s, qX_s, qN_s, qW_s, qF_s, qC_s, Option.bind_some, Option.bind_none, Nat.reduceAdd, Nat.reduceBEq, Nat.reduceEqDiff, lk_nil, lk_cons, lk_pt1, lk_pt2i, isJ_i, isJ_r, isJ_l, gI_i, gJ_i, gR_i, Bool.false_eq_true, if_true, if_false, ite_true, ite_false, ↓reduceIte, len4_0, len4_1, len4_2, len4_3, len4_4, Option.toList_some, Option.toList_none, List.cons_append, List.nil_append, va_rf_s, up_hp, ofI_j, jI_add, jI_sub, jI_mul, jI_neg, jL_add, jL_sub, jL_mul, jI_jL, jL_jI, nar_i, nar_zj, lt_t, lt_f, le_t, le_f, eq_t, eq_f, ez_t, ez_f, lz_t, lz_f, gz_t, gz_f, nz_t, nz_f, pz_t, pz_f, lgc_gt, lgc_lt, lgc_ge, lgc_le, lgc_eq, Lt_t, Lt_f, Le_t, Le_f, Eq_t, Eq_f, dv_j, not_true_eq_false, not_false_eq_true, Int.reduceEq, Int.reduceAdd, Int.reduceSub, Int.reduceMul, Int.reduceNeg, Ez_t, Ez_f, dv_L, false_and, true_and, and_true, and_false]
      exact r0
    · rw [hq] at P1 hG
      obtain ⟨rfl, f1, f2⟩ := P1
      have r0 := hG M1 ⟨⟨fun b hb => F10 b (by omega), by rw [F10 157 (by omega)], z1, z2, fun i hi => by rw [F8, su_ne _ _ hi], by rw [F8, su_self]⟩, by
        unfold FQ
        rw [if_pos q, hq]
        exact ⟨f1, f2⟩⟩
      simp (disch := omega) only [Rm_aload_n (k := 0) rfl dX11_ask_0, Rm_getfield fl_11_37 dX11_ask_1, Rn_istore_n (k := 2) (nL := 4) rfl rfl dX11_ask_4, Rm_aload_n (k := 0) rfl dX11_ask_5, Rn_iconst (v := jI (0)) rfl dX11_ask_6, Rm_putfieldI (ini := false) fl_11_37 rfl rfl dX11_ask_7, Rm_aload_n (k := 0) rfl dX11_ask_10, Rn_iconst (v := jI (1)) rfl dX11_ask_11, Rm_iload_n (k := 1) rfl dX11_ask_12, Rm_inV2 (d := dX11_ask_13) (hy := mo_124) (h13 := rfl) ml_11_148 rfl, Rn_if_ne (t := 23) rfl dX11_ask_16, Rn_ldc2_w lj_11_263 dX11_ask_19, Rn_lreturn rfl dX11_ask_22, Rm_aload_n (k := 0) rfl dX11_ask_23, Rm_getfield fl_11_20 dX11_ask_24, Rm_iload_n (k := 2) rfl dX11_ask_27, Rm_aload_n (k := 0) rfl dX11_ask_28, Rm_getfield fl_11_44 dX11_ask_29, Rm_inV2 (d := dX11_ask_32) (hy := mo_3) (h13 := rfl) ml_11_265 rfl, Rn_istore_n (k := 3) (nL := 4) rfl rfl dX11_ask_35, Rm_iload_n (k := 3) rfl dX11_ask_36, Rn_iconst (v := jI (-1)) rfl dX11_ask_37, Rn_icmp_ne (t := 47) rfl dX11_ask_38, Rn_ldc2_w lj_11_263 dX11_ask_41, Rn_goto (t := 53) rfl dX11_ask_44, Rm_aload_n (k := 0) rfl dX11_ask_47, Rm_iload_n (k := 3) rfl dX11_ask_48, Rm_iload_n (k := 1) rfl dX11_ask_49, Rm_inV2 (d := dX11_ask_50) (hy := mo_134) (h13 := rfl) ml_11_269 rfl, Rn_lreturn rfl dX11_ask_53, gs11_1 k8, gs11_4 k8, gs11_5 k8, io11 k8, ps11_4 k8, io11 k8, io1 k10, isThere_t _ h8c ht, h4, e1, qI_s, qJ_s, qR_s, qV_s, qX_s, qN_s, qW_s, qF_s, qC_s, Option.bind_some, Option.bind_none, Nat.reduceAdd, Nat.reduceBEq, Nat.reduceEqDiff, lk_nil, lk_cons, lk_pt1, lk_pt2i, isJ_i, isJ_r, isJ_l, gI_i, gJ_i, gR_i, Bool.false_eq_true, if_true, if_false, ite_true, ite_false, ↓reduceIte, len4_0, len4_1, len4_2, len4_3, len4_4, Option.toList_some, Option.toList_none, List.cons_append, List.nil_append, va_rf_s, up_hp, ofI_j, jI_add, jI_sub, jI_mul, jI_neg, jL_add, jL_sub, jL_mul, jI_jL, jL_jI, nar_i, nar_zj, lt_t, lt_f, le_t, le_f, eq_t, eq_f, ez_t, ez_f, lz_t, lz_f, gz_t, gz_f, nz_t, nz_f, pz_t, pz_f, lgc_gt, lgc_lt, lgc_ge, lgc_le, lgc_eq, Lt_t, Lt_f, Le_t, Le_f, Eq_t, Eq_f, dv_j, not_true_eq_false, not_false_eq_true, Int.reduceEq, Int.reduceAdd, Int.reduceSub, Int.reduceMul, Int.reduceNeg, Ez_t, Ez_f, dv_L, false_and, true_and, and_true, and_false]
      exact r0
  · rw [if_neg q] at hG
    have r0 := hG (st M 8 4 0) ⟨⟨fun b hb => st_ne _ _ _ (by omega), by rw [st_ne _ _ _ (by omega)], by unfold SuK; rw [st_ne _ _ _ (by omega)]; exact hu1, by unfold SuK; rw [st_ne _ _ _ (by omega)]; exact hu2, fun i hi => by rw [st_self, su_ne _ _ hi], by rw [st_self, su_self]⟩, by
      unfold FQ
      rw [if_neg q, st_ne _ _ _ (by omega)]
      exact ⟨rfl, rfl⟩⟩
    simp (disch := omega) only [Rm_aload_n (k := 0) rfl dX11_ask_0, Rm_getfield fl_11_37 dX11_ask_1, Rn_istore_n (k := 2) (nL := 4) rfl rfl dX11_ask_4, Rm_aload_n (k := 0) rfl dX11_ask_5, Rn_iconst (v := jI (0)) rfl dX11_ask_6, Rm_putfieldI (ini := false) fl_11_37 rfl rfl dX11_ask_7, Rm_aload_n (k := 0) rfl dX11_ask_10, Rn_iconst (v := jI (1)) rfl dX11_ask_11, Rm_iload_n (k := 1) rfl dX11_ask_12, Rm_inV2 (d := dX11_ask_13) (hy := mo_124) (h13 := rfl) ml_11_148 rfl, Rn_if_ne (t := 23) rfl dX11_ask_16, Rn_ldc2_w lj_11_263 dX11_ask_19, Rn_lreturn rfl dX11_ask_22, Rm_aload_n (k := 0) rfl dX11_ask_23, Rm_getfield fl_11_20 dX11_ask_24, Rm_iload_n (k := 2) rfl dX11_ask_27, Rm_aload_n (k := 0) rfl dX11_ask_28, Rm_getfield fl_11_44 dX11_ask_29, Rm_inV2 (d := dX11_ask_32) (hy := mo_3) (h13 := rfl) ml_11_265 rfl, Rn_istore_n (k := 3) (nL := 4) rfl rfl dX11_ask_35, Rm_iload_n (k := 3) rfl dX11_ask_36, Rn_iconst (v := jI (-1)) rfl dX11_ask_37, Rn_icmp_ne (t := 47) rfl dX11_ask_38, Rn_ldc2_w lj_11_263 dX11_ask_41, Rn_goto (t := 53) rfl dX11_ask_44, Rm_aload_n (k := 0) rfl dX11_ask_47, Rm_iload_n (k := 3) rfl dX11_ask_48, Rm_iload_n (k := 1) rfl dX11_ask_49, Rm_inV2 (d := dX11_ask_50) (hy := mo_134) (h13 := rfl) ml_11_269 rfl, Rn_lreturn rfl dX11_ask_53, gs11_1 k8, gs11_4 k8, gs11_5 k8, io11 k8, ps11_4 k8, io11 k8, isThere_f _ h8c ht, qI_s, qJ_s, qR_s, qV_s, qX_s, qN_s, qW_s, qF_s, qC_s, Option.bind_some, Option.bind_none, Nat.reduceAdd, Nat.reduceBEq, Nat.reduceEqDiff, lk_nil, lk_cons, lk_pt1, lk_pt2i, isJ_i, isJ_r, isJ_l, gI_i, gJ_i, gR_i, Bool.false_eq_true, if_true, if_false, ite_true, ite_false, ↓reduceIte, len4_0, len4_1, len4_2, len4_3, len4_4, Option.toList_some, Option.toList_none, List.cons_append, List.nil_append, va_rf_s, up_hp, ofI_j, jI_add, jI_sub, jI_mul, jI_neg, jL_add, jL_sub, jL_mul, jI_jL, jL_jI, nar_i, nar_zj, lt_t, lt_f, le_t, le_f, eq_t, eq_f, ez_t, ez_f, lz_t, lz_f, gz_t, gz_f, nz_t, nz_f, pz_t, pz_f, lgc_gt, lgc_lt, lgc_ge, lgc_le, lgc_eq, Lt_t, Lt_f, Le_t, Le_f, Eq_t, Eq_f, dv_j, not_true_eq_false, not_false_eq_true, Int.reduceEq, Int.reduceAdd, Int.reduceSub, Int.reduceMul, Int.reduceNeg, Ez_t, Ez_f, dv_L, false_and, true_and, and_true, and_false]
    exact r0
end

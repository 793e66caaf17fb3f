/-! a whim -/
def whP (T : TT) (x : Int) : Int := dvF x (np T)
def whM (T : TT) (x : Int) : Int := dvF (drF x) (nm T)
def whV (T : TT) (s : Ss) (x : Int) : Int := asF (sn s (whP T x) (whM T x) + (dvF (drF (drF x)) 3 - 1) * twh T)
def whS (T : TT) (s : Ss) (x : Int) : Ss := setn s (whP T x) (whM T x) (whV T s x)
def whX (x : Int) : Int := drF (drF (drF x))
theorem dvF_rng (x : Int) {m : Int} (h : 1 ≤ m) : 0 ≤ dvF x m ∧ dvF x m < m := ⟨Int.emod_nonneg _ (by omega), Int.emod_lt_of_pos _ (by omega)⟩
section
variable {n z t : Nat} {T : TT} {s : Ss} {H : Nat → AC} {M : Me} (d : Nat)
theorem wh_rng (wT : wfT T) (wS : wfS T s) (hp1 : 1 ≤ np T) (hm1 : 1 ≤ nm T) (x : Int) : (0 ≤ whP T x ∧ whP T x < np T) ∧ (0 ≤ whM T x ∧ whM T x < nm T) ∧ (-99 ≤ (dvF (drF (drF x)) 3 - 1) * twh T ∧ (dvF (drF (drF x)) 3 - 1) * twh T ≤ 99) := by
  have a := dvF_rng x (m := np T) (by omega)
  have b := dvF_rng (drF x) (m := nm T) (by omega)
  have c := dvF_rng (drF (drF x)) (m := 3) (by omega)
  have w := wT.2.2.2.2.2.2.2.2.2.2.2.2
  refine ⟨a, b, ?_⟩
  rcases (show dvF (drF (drF x)) 3 - 1 = -1 ∨ dvF (drF (drF x)) 3 - 1 = 0 ∨ dvF (drF (drF x)) 3 - 1 = 1 by omega) with h | h | h <;> rw [h] <;> omega
set_option maxHeartbeats 4000000 in
theorem c_whim (hB : CB M t T s) (wT : wfT T) (wS : wfS T s) (hp1 : 1 ≤ np T) (hm1 : 1 ≤ nm T) (x0 : 0 ≤ M 8 15) (x1 : M 8 15 < 2147483648) : X (d + 3) 132 [.ref 8] (n, z, hp H M) = some (none, (n, z, hp H (st (st M 8 15 (whX (M 8 15))) 45 (whP T (M 8 15) * 4 + whM T (M 8 15)) (whV T s (M 8 15))))) := by
  obtain ⟨hc, ht, hT, hS, hu1, hu2⟩ := id hB
  obtain ⟨⟨c0, c1, c2, c3, c4⟩, clv, cml, ccd, ⟨cb, cev, cwh⟩, -⟩ := id hT
  obtain ⟨wm, wp, wl, we, wd, wlv, wme, wde, w6, w7, wbk, wev, wwh⟩ := id wT
  have wh := wS.1
  have e0 := hS.1
  have ht9 := a9 ht
  generalize hx : M 8 15 = x at *
  obtain ⟨⟨p0, p1⟩, ⟨m0, m1⟩, r0, r1⟩ := wh_rng wT wS hp1 hm1 x
  have d1 := c_draw (d + 1) (n := n) (z := z) (H := H) (M := M) (m := np T) (by omega) (by omega) (by omega) (by omega)
  have d2 := c_draw (d + 1) (n := n) (z := z) (H := H) (M := st M 8 15 (drF x)) (m := nm T) (by omega) (by omega) (by rw [st_self, su_self]; exact (drF_rng x).1) (by rw [st_self, su_self]; exact (drF_rng x).2)
  have d3 := c_draw (d + 1) (n := n) (z := z) (H := H) (M := st (st M 8 15 (drF x)) 8 15 (drF (drF x))) (m := 3) (by omega) (by omega) (by rw [st_self, su_self]; exact (drF_rng _).1) (by rw [st_self, su_self]; exact (drF_rng _).2)
  have ess : ∀ a b, st (st M 8 15 a) 8 15 b = st M 8 15 b := fun a b => by
    rw [st_c M 8 15 a, st_setc, st_c M 8 15 b]
    congr 1
    funext i
    simp only [su_app]
    split <;> rfl
  rw [hx] at d1
  rw [st_self, su_self, ess] at d2
  rw [ess, st_self, su_self, ess] at d3
  have y := (hS.2.1 (whP T x) (whM T x) p0 p1 m0 m1).1
  have rn := wS.2.1 (whP T x) (whM T x) p0 p1 m0 m1
  have ea := fun h => n_asFelt d h (x := sn s (whP T x) (whM T x) + (dvF (drF (drF x)) 3 - 1) * twh T) (by omega) (by omega)
  have e1 : dvF x (np T) = whP T x := rfl
  have e2 : dvF (drF x) (nm T) = whM T x := rfl
  have e3 : asF (sn s (whP T x) (whM T x) + (dvF (drF (drF x)) 3 - 1) * twh T) = whV T s x := rfl
  rw [e1] at d1
  rw [e2] at d2
  rw [e3] at ea
  rw [Xe_X11_followWhim]
  simp (disch := omega) only [Rm_aload_n (k := 0) rfl dX11_followWhim_0, Rm_getfield fl_11_51 dX11_followWhim_1, Rm_getfield fl_11_138 dX11_followWhim_4, Rn_iconst (v := jI (1)) rfl dX11_followWhim_7, Rm_iaload dX11_followWhim_8, Rn_istore_n (k := 1) (nL := 7) rfl rfl dX11_followWhim_9, Rm_aload_n (k := 0) rfl dX11_followWhim_10, Rm_getfield fl_11_51 dX11_followWhim_11, Rm_getfield fl_11_138 dX11_followWhim_14, Rn_iconst (v := jI (0)) rfl dX11_followWhim_17, Rm_iaload dX11_followWhim_18, Rn_istore_n (k := 2) (nL := 7) rfl rfl dX11_followWhim_19, Rm_iload_n (k := 1) rfl dX11_followWhim_20, Rn_if_eq (t := 28) rfl dX11_followWhim_21, Rm_iload_n (k := 2) rfl dX11_followWhim_24, Rn_if_ne (t := 29) rfl dX11_followWhim_25, Rn_return rfl dX11_followWhim_28, Rm_aload_n (k := 0) rfl dX11_followWhim_29, Rm_iload_n (k := 1) rfl dX11_followWhim_30, Rm_inV1 (d := dX11_followWhim_31) (hy := mo_133) (h13 := rfl) ml_11_298 rfl, Rn_istore_n (k := 3) (nL := 7) rfl rfl dX11_followWhim_34, Rm_aload_n (k := 0) rfl dX11_followWhim_35, Rm_iload_n (k := 2) rfl dX11_followWhim_36, Rm_inV1 (d := dX11_followWhim_37) (hy := mo_133) (h13 := rfl) ml_11_298 rfl, Rn_istore (nL := 7) rfl dX11_followWhim_40, Rm_aload_n (k := 0) rfl dX11_followWhim_42, Rn_iconst (v := jI (3)) rfl dX11_followWhim_43, Rm_inV1 (d := dX11_followWhim_44) (hy := mo_133) (h13 := rfl) ml_11_298 rfl, Rn_iconst (v := jI (1)) rfl dX11_followWhim_47, Rn_isub dX11_followWhim_48, Rn_istore (nL := 7) rfl dX11_followWhim_49, Rm_iload_n (k := 3) rfl dX11_followWhim_51, Rn_iconst (v := jI (4)) rfl dX11_followWhim_52, Rn_imul dX11_followWhim_53, Rm_iload dX11_followWhim_54, Rn_iadd dX11_followWhim_56, Rn_istore (nL := 7) rfl dX11_followWhim_57, Rm_aload_n (k := 0) rfl dX11_followWhim_59, Rm_getfield fl_11_68 dX11_followWhim_60, Rm_getfield fl_11_162 dX11_followWhim_63, Rm_iload dX11_followWhim_66, Rm_aload_n (k := 0) rfl dX11_followWhim_68, Rm_getfield fl_11_68 dX11_followWhim_69, Rm_getfield fl_11_162 dX11_followWhim_72, Rm_iload dX11_followWhim_75, Rm_iaload dX11_followWhim_77, Rm_iload dX11_followWhim_78, Rm_aload_n (k := 0) rfl dX11_followWhim_80, Rm_getfield fl_11_51 dX11_followWhim_81, Rm_getfield fl_11_301 dX11_followWhim_84, Rn_imul dX11_followWhim_87, Rn_iadd dX11_followWhim_88, Rm_inS1 (d := dX11_followWhim_89) ml_11_304 rfl, Rm_iastore dX11_followWhim_92, Rn_return rfl dX11_followWhim_93, gs7_1 k44, rdM k45 l45, wrM k45 l45, alM k45 l45, gs9_1 ht, rdM (ka9_1 ht) (la9_1 ht), wrM (ka9_1 ht) (la9_1 ht), alM (ka9_1 ht) (la9_1 ht), gs9_14 ht, gs11_6 k8, gs11_9 k8, io11 k8, io11 k8, hc, c0, c1, cwh, d1, d2, d3, st_ne, st_self, su_ne, y, ea, qI_s, qJ_s, qR_s, qV_s, qX_s, qN_s, qW_s, qF_s, qC_s, Option.bind_some, Option.bind_none, Nat.reduceAdd, Nat.reduceBEq, Nat.reduceEqDiff, lk_nil, lk_cons, lk_pt1, lk_pt2i, isJ_i, isJ_r, isJ_l, gI_i, gJ_i, gR_i, Bool.false_eq_true, if_true, if_false, ite_true, ite_false, ↓reduceIte, len4_0, len4_1, len4_2, len4_3, len4_4, Option.toList_some, Option.toList_none, List.cons_append, List.nil_append, va_rf_s, up_hp, ofI_j, jI_add, jI_sub, jI_mul, jI_neg, jL_add, jL_sub, jL_mul, jI_jL, jL_jI, nar_i, nar_zj, lt_t, lt_f, le_t, le_f, eq_t, eq_f, ez_t, ez_f, lz_t, lz_f, gz_t, gz_f, nz_t, nz_f, pz_t, pz_f, lgc_gt, lgc_lt, lgc_ge, lgc_le, lgc_eq, Lt_t, Lt_f, Le_t, Le_f, Eq_t, Eq_f, dv_j, not_true_eq_false, not_false_eq_true, Int.reduceEq, Int.reduceAdd, Int.reduceSub, Int.reduceMul, Int.reduceNeg, Ez_t, Ez_f, dv_L, false_and, true_and, and_true, and_false]
  rfl
end

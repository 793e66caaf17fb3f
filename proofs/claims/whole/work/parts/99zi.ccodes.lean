/-! a town told: deeds, turn, night: the class -/
theorem kcode {t : Nat} (ht : kd t = 9) : kd (t + 9) = 0 := by
  rcases a9 ht with h | h <;> (rw [h]; decide +kernel)
theorem BDc {M M' : Me} {t s j : Nat} {B : BT} {cs : List Nat} (hD : BD M t B s) (hj : j < 8) (e10 : ∀ i : Int, i < s → M' (t + 10) i = M (t + 10) i) (e13 : cdM (M' (t + 10)) s cs) (e11 : M' (t + 11) = su (M (t + 11)) (j : Nat) s) (e12 : M' (t + 12) = su (M (t + 12)) (j : Nat) ((s + cs.length : Nat) : Int)) : ∀ i : Nat, (i < nd B.1 ∨ i = 6 ∨ i = 7) ∨ i = j → 0 ≤ M' (t + 11) i ∧ M' (t + 12) i = M' (t + 11) i + ((if i = j then cs else tc B.1 i).length : Nat) ∧ M' (t + 12) i ≤ ((s + cs.length : Nat) : Int) ∧ cdM (M' (t + 10)) (M' (t + 11) i) (if i = j then cs else tc B.1 i) := by
  intro i hi
  by_cases q : i = j
  · subst q
    rw [if_pos rfl, e11, e12, su_self, su_self]
    exact ⟨by omega, by omega, by omega, e13⟩
  · rw [if_neg q, e11, e12, su_ne _ _ (by omega), su_ne _ _ (by omega)]
    obtain ⟨a1, a2, a3, a4⟩ := hD.2.2.2.1.2 i (by omega)
    exact ⟨a1, a2, by omega, cdM_congr (fun x x0 x1 => e10 x (by omega)) a4⟩
section
variable {n z : Nat} {H : Nat → AC} {M : Me} {g : Int → Int} {k e : Nat} {nb : Bool}
/-- a sum or a test told into a town -/
theorem s_codeT {t wh tag : Nat} {p : Ps} {M1 : Me} {s : Nat} (htag : tag = 0 ∨ tag = 5) (hW : Hw H) (hb : Byt g k) (hk : k ≤ 1600) (ht : kd t = 9) (hp' : p.1 ≤ k) (hwh : wh < 3) (hT : TK g k p.1 p.2 M1) (h10 : M1 10 1 = wh) (hs : M1 (t + 9) 1 = s) (hse : s ≤ p.1) (d : Nat) : ∃ (v : Int) (M' : Me), X (d + 75) (mI tag) [.ref 10, .ref (t + 9), .int (jI 0)] (n, z, hp H M1) = some (some (.int (jI v)), (n, z, hp H M')) ∧ Pst g k (t + 9) M1 M' (evX g k wh tag p) v := by
  have hev := evX_eq (g := g) (k := k) (wh := wh) (tag := tag) (p := p) (by omega) hp'
  obtain ⟨c0, -, -, c5, -, -⟩ := (cal_all (n := n) (z := z) (H := H) (g := g) (k := k) (wh := wh) hW hb hk (kcode ht) hwh (8 * k + 20)).1
  rcases htag with rfl | rfl
  · exact c0 0 p.1 p.2 _ M1 s (by omega) hp' hev hT h10 hs hse (d + 75) (by rw [show Nd 0 0 = 75 from rfl]; omega)
  · exact c5 0 p.1 p.2 _ M1 s (by omega) hp' hev hT h10 hs hse (d + 75) (by rw [show Nd 5 0 = 72 from rfl]; omega)
theorem evX_len {wh tag : Nat} {p : Ps} {e' : Nat} {nb' : Bool} {cs : List Nat} (ht : tag ≤ 9) (hp' : p.1 ≤ k) (h : evX g k wh tag p = .inl (e', nb', cs)) : e' ≤ k ∧ p.1 + cs.length ≤ e' := by
  have hev := evX_eq (g := g) (k := k) (wh := wh) (tag := tag) (p := p) ht hp'
  rw [h] at hev
  have := ev_len hev hp'
  exact ⟨this.1, this.2.1⟩
set_option maxHeartbeats 8000000 in
theorem s_readDeed {t s : Nat} {B : BT} (hW : Hw H) (hH : Hk H) (hb : Byt g k) (hk : k ≤ 1600) (ht : kd t = 9) (he : e ≤ k) (hT : TK g k e nb M) (hj : tkJ g k e nb = 1) (hC : CN M t B) (hD : BD M t B s) (hB : bdB B) (hs : s ≤ e) (d : Nat) : ∃ (v : Int) (M' : Me), X (d + 76) 84 [.ref 9, .ref t] (n, z, hp H M) = some (some (.int (jI v)), (n, z, hp H M')) ∧ KGt t M M' ∧ PtC g k t (deF g k (e, nb) B) v M' := by
  have t9 := a9 ht
  have kc := kcode ht
  obtain ⟨w1, w2, w3, w4, w5⟩ := id hB
  have y1 : M (t + 1) 4 = (nd B.1 : Nat) := (hC.1 3 (by omega)).1
  obtain ⟨v1, M1, e1, K1, h1⟩ := s_readNew (n := n) (z := z) (H := H) (kind := 3) hW hH hb hk (by omega) ht he hT hj hC (d + 68)
  rw [show (((kI 3 : Nat)) : Int) = 4 from rfl] at e1
  refine ex2_of fun G hG => ?_
  rw [Xe_X10_readDeed]
  unfold deF at hG
  rcases hnf : newF g k 3 (e, nb) B with ⟨L, q⟩ | x
  · rw [hnf] at h1
    obtain ⟨rfl, T1, C1⟩ := h1
    obtain ⟨c1, c2, c3, c4⟩ := newF_in (p := (e, nb)) he hj hnf
    have c4' : nd B.1 < 6 := c4
    have c1' : e < q.1 := c1
    have hG1 : ∀ v M', KGt t M M' → PtC g k t (bz (wdT g k 9 q) fun q => bz (evX g k 1 0 q) fun u => .inl ((u.1, u.2.1), setC (nd B.1) u.2.2 (adN 3 L B))) v M' → G (some (some (.int (jI v)), (n, z, hp H M'))) := fun v M' a b => hG v M' ⟨a, by rw [hnf]; exact b⟩
    clear hG
    obtain ⟨v2, M2, e2, K2, h2⟩ := s_takeWd (n := n) (z := z) (H := H) hW hb hk c2 T1 (w := 9) (by omega) (by omega) (d + 68)
    rw [show wdT g k 9 (q.1, q.2) = wdT g k 9 q from rfl] at h2
    have K02 : KGn t M M2 := KGn_trans K1 (KGn_1 K2)
    rcases hwd : wdT g k 9 q with q2 | x
    · rw [hwd] at h2
      obtain ⟨rfl, T2⟩ := h2
      obtain ⟨f1, f2, f3, -⟩ := wdT_in c2 hwd
      have hG2 : ∀ v M', KGt t M M' → PtC g k t (bz (evX g k 1 0 q2) fun u => .inl ((u.1, u.2.1), setC (nd B.1) u.2.2 (adN 3 L B))) v M' → G (some (some (.int (jI v)), (n, z, hp H M'))) := fun v M' a b => hG1 v M' a (by rw [hwd]; exact b)
      clear hG1
      have C2 : CN M2 t (adN 3 L B) := CN_keep C1 (K2.1 _ (by omega)) (K2.1 _ (by omega))
      have D2 := BD_keep (M' := M2) hD (fun b b0 b1 => K02.1 b (by omega)) (fun i i0 i1 => by rw [K02.1 t (by omega)])
      have s2 : M2 (t + 9) 1 = (s : Int) := D2.2.2.2.1.1
      have s3 : ∀ i v, st M2 (t + 11) i v (t + 9) 1 = (s : Int) := fun i v => by rw [st_ne _ _ _ (by omega)]; exact s2
      have T4 : TK g k q2.1 q2.2 (st (st M2 (t + 11) (nd B.1 : Nat) s) 10 1 1) := TK_fr T2 (by rw [st_ne _ _ _ (by omega), st_ne _ _ _ (by omega)]) (by rw [st_ne _ _ _ (by omega), st_ne _ _ _ (by omega)])
      obtain ⟨v5, M5, e5, P5⟩ := s_codeT (n := n) (z := z) (wh := 1) (tag := 0) (Or.inl rfl) hW hb hk ht f3 (by omega) T4 (by rw [st_self, su_self]; rfl) (s := s) (by rw [st_ne _ _ _ (by omega)]; exact s3 _ _) (by omega) d
      rw [show mI 0 = 4 from rfl] at e5
      have K5 := P5.1
      have F5 : ∀ b, ¬ (b = 11 ∨ b = 10 ∨ b = t + 9 ∨ b = t + 10 ∨ b = t + 11) → M5 b = M2 b := fun b hb => by rw [K5.1 b (by omega), st_ne _ _ _ (by omega), st_ne _ _ _ (by omega)]
      have F5t : M5 (t + 11) = su (M2 (t + 11)) (nd B.1 : Nat) s := by rw [K5.1 _ (by omega), st_ne _ _ _ (by omega), st_self]
      have g5 : ∃ s5 : Nat, M5 (t + 9) 1 = s5 ∧ s5 ≤ 1600 ∨ True := ⟨0, Or.inr trivial⟩
      have K6 : ∀ i v, KGt t M (st M5 (t + 12) i v) := fun i v => ⟨fun b hb => by rw [st_ne _ _ _ (by omega), F5 b (by omega)]; exact K02.1 b (by omega), fun i hi => by rw [st_ne _ _ _ (by omega), K5.2.1 i hi, st_ne _ _ _ (by omega), st_ne _ _ _ (by omega)]; exact K02.2 i hi, by rw [st_ne _ _ _ (by omega), F5 t (by omega), K02.1 t (by omega)]⟩
      rcases hx : evX g k 1 0 q2 with ⟨e', nb', cs⟩ | x
      · rw [hx] at P5
        obtain ⟨-, rfl, T5, A1, A2, A3⟩ := P5
        have hl := evX_len (by omega) f3 hx
        have s40 : (st (st M2 (t + 11) (nd B.1 : Nat) s) 10 1 1) (t + 9) 1 = (s : Int) := by rw [st_ne _ _ _ (by omega)]; exact s3 _ _
        have s4a : (st (st M2 (t + 11) (nd B.1 : Nat) s) 10 1 1) (t + 10) = M2 (t + 10) := by rw [st_ne _ _ _ (by omega), st_ne _ _ _ (by omega)]
        rw [s40] at A1 A2 A3
        rw [show t + 9 + 1 = t + 10 from rfl] at A2 A3
        rw [s4a] at A2
        have r0 := hG2 1 (st M5 (t + 12) (nd B.1 : Nat) ((s + cs.length : Nat) : Int)) (K6 _ _) (by
          rw [hx]
          show (1 : Int) = 1 ∧ TK g k e' nb' _ ∧ CN _ t (setC (nd B.1) cs (adN 3 L B)) ∧ ∃ s, s ≤ e' ∧ BD _ t (setC (nd B.1) cs (adN 3 L B)) s
          refine ⟨rfl, TK_fr T5 (st_ne _ _ _ (by omega)) (st_ne _ _ _ (by omega)), CN_keep (B := adN 3 L B) C2 (by rw [st_ne _ _ _ (by omega)]; exact F5 _ (by omega)) (by rw [st_ne _ _ _ (by omega)]; exact F5 _ (by omega)), s + cs.length, by omega, ?_⟩
          have bdc := BDc (M' := st M5 (t + 12) (nd B.1 : Nat) ((s + cs.length : Nat) : Int)) (j := nd B.1) (cs := cs) D2 (by omega) (fun i hi => by rw [st_ne _ _ _ (by omega)]; exact A2 i hi) (by rw [st_ne _ _ _ (by omega)]; exact A3) (by rw [st_ne _ _ _ (by omega)]; exact F5t) (by rw [st_self, F5 (t + 12) (by omega)])
          obtain ⟨d1, d2, d3, -, d5⟩ := D2
          refine ⟨?_, ?_, ?_, ⟨?_, fun i hi => ?_⟩, ?_⟩
          · rw [st_ne _ _ _ (by omega), F5 (t + 3) (by omega)]; exact d1
          · rw [st_ne _ _ _ (by omega), st_ne _ _ _ (by omega), F5 (t + 4) (by omega), F5 (t + 5) (by omega)]; exact d2
          · rw [st_ne _ _ _ (by omega), st_ne _ _ _ (by omega), st_ne _ _ _ (by omega), F5 (t + 6) (by omega), F5 (t + 7) (by omega), F5 (t + 8) (by omega)]; exact d3
          · rw [st_ne _ _ _ (by omega), A1]; omega
          · have hi' : i < nd B.1 + 1 ∨ i = 6 ∨ i = 7 := hi
            exact bdc i (by omega)
          · rw [st_ne _ _ _ (by omega), F5 t (by omega)]; exact d5)
        have A1' : M5 (t + 9) 1 = ((s + cs.length : Nat) : Int) := by rw [A1]; omega
        simp (disch := omega) only [Rm_aload_n (k := 1) rfl dX10_readDeed_0, Rm_getfield fl_10_81 dX10_readDeed_1, Rn_iconst (v := jI (4)) rfl dX10_readDeed_4, Rm_iaload dX10_readDeed_5, Rn_istore_n (k := 2) (nL := 4) rfl rfl dX10_readDeed_6, Rm_aload_n (k := 0) rfl dX10_readDeed_7, Rm_aload_n (k := 1) rfl dX10_readDeed_8, Rn_iconst (v := jI (4)) rfl dX10_readDeed_9, Rm_inV2 (d := dX10_readDeed_10) (hy := mo_87) (h13 := rfl) ml_10_85 rfl, Rn_if_eq (t := 28) rfl dX10_readDeed_13, Rm_aload_n (k := 0) rfl dX10_readDeed_16, Rm_getfield fl_10_22 dX10_readDeed_17, Rn_bipush (v := jI (9)) rfl dX10_readDeed_20, Rm_inV1 (d := dX10_readDeed_22) (hy := mo_52) (h13 := rfl) ml_10_88 rfl, Rn_if_ne (t := 30) rfl dX10_readDeed_25, Rn_iconst (v := jI (0)) rfl dX10_readDeed_28, Rn_ireturn (ty := .boolean) rfl dX10_readDeed_29, Rm_aload_n (k := 1) rfl dX10_readDeed_30, Rm_getfield fl_10_123 dX10_readDeed_31, Rm_iload_n (k := 2) rfl dX10_readDeed_34, Rm_aload_n (k := 1) rfl dX10_readDeed_35, Rm_getfield fl_10_126 dX10_readDeed_36, Rm_getfield fl_10_130 dX10_readDeed_39, Rm_iastore dX10_readDeed_42, Rm_aload_n (k := 0) rfl dX10_readDeed_43, Rm_getfield fl_10_12 dX10_readDeed_44, Rn_iconst (v := jI (1)) rfl dX10_readDeed_47, Rm_putfieldI (ini := false) fl_10_135 rfl rfl dX10_readDeed_48, Rm_aload_n (k := 0) rfl dX10_readDeed_51, Rm_getfield fl_10_12 dX10_readDeed_52, Rm_aload_n (k := 1) rfl dX10_readDeed_55, Rm_getfield fl_10_126 dX10_readDeed_56, Rn_iconst (v := jI (0)) rfl dX10_readDeed_59, Rm_inV2 (d := dX10_readDeed_60) (hy := mo_4) (h13 := rfl) ml_10_138 rfl, Rn_istore_n (k := 3) (nL := 4) rfl rfl dX10_readDeed_63, Rm_aload_n (k := 1) rfl dX10_readDeed_64, Rm_getfield fl_10_142 dX10_readDeed_65, Rm_iload_n (k := 2) rfl dX10_readDeed_68, Rm_aload_n (k := 1) rfl dX10_readDeed_69, Rm_getfield fl_10_126 dX10_readDeed_70, Rm_getfield fl_10_130 dX10_readDeed_73, Rm_iastore dX10_readDeed_76, Rm_iload_n (k := 3) rfl dX10_readDeed_77, Rn_ireturn (ty := .boolean) rfl dX10_readDeed_78, gs0_1 kc, gs9_1 ht, rdM (ka9_1 ht) (la9_1 ht), wrM (ka9_1 ht) (la9_1 ht), alM (ka9_1 ht) (la9_1 ht), gs9_9 ht, gs9_10 ht, rdM (ka9_10 ht) (la9_10 ht), wrM (ka9_10 ht) (la9_10 ht), alM (ka9_10 ht) (la9_10 ht), gs9_11 ht, rdM (ka9_11 ht) (la9_11 ht), wrM (ka9_11 ht) (la9_11 ht), alM (ka9_11 ht) (la9_11 ht), gs10_0 k9, gs10_1 k9, io1 k10, io6 k11, io10 k9, ps1_1 k10, io6 k11, io10 k9, io1 k10, y1, e1, e2, s2, e5, A1', qI_s, qJ_s, qR_s, qV_s, qX_s, qN_s, qW_s, qF_s, qC_s, Option.bind_some, Option.bind_none, Nat.reduceAdd, Nat.reduceBEq, Nat.reduceEqDiff, lk_nil, lk_cons, lk_pt1, lk_pt2i, isJ_i, isJ_r, isJ_l, gI_i, gJ_i, gR_i, Bool.false_eq_true, if_true, if_false, ite_true, ite_false, ↓reduceIte, len4_0, len4_1, len4_2, len4_3, len4_4, Option.toList_some, Option.toList_none, List.cons_append, List.nil_append, va_rf_s, up_hp, ofI_j, jI_add, jI_sub, jI_mul, jI_neg, jL_add, jL_sub, jL_mul, jI_jL, jL_jI, nar_i, nar_zj, lt_t, lt_f, le_t, le_f, eq_t, eq_f, ez_t, ez_f, lz_t, lz_f, gz_t, gz_f, nz_t, nz_f, pz_t, pz_f, lgc_gt, lgc_lt, lgc_ge, lgc_le, lgc_eq, Lt_t, Lt_f, Le_t, Le_f, Eq_t, Eq_f, dv_j, not_true_eq_false, not_false_eq_true, Int.reduceEq, Int.reduceAdd, Int.reduceSub, Int.reduceMul, Int.reduceNeg, Ez_t, Ez_f, dv_L, false_and, true_and, and_true, and_false]
        exact r0
      · rw [hx] at P5
        obtain ⟨-, rfl, hfl⟩ := P5
        have r0 := hG2 0 (st M5 (t + 12) (nd B.1 : Nat) (M5 (t + 9) 1)) (K6 _ _) (by
          rw [hx]
          exact ⟨rfl, by unfold Fl11; rw [st_ne _ _ _ (by omega)]; exact hfl⟩)
        simp (disch := omega) only [Rm_aload_n (k := 1) rfl dX10_readDeed_0, Rm_getfield fl_10_81 dX10_readDeed_1, Rn_iconst (v := jI (4)) rfl dX10_readDeed_4, Rm_iaload dX10_readDeed_5, Rn_istore_n (k := 2) (nL := 4) rfl rfl dX10_readDeed_6, Rm_aload_n (k := 0) rfl dX10_readDeed_7, Rm_aload_n (k := 1) rfl dX10_readDeed_8, Rn_iconst (v := jI (4)) rfl dX10_readDeed_9, Rm_inV2 (d := dX10_readDeed_10) (hy := mo_87) (h13 := rfl) ml_10_85 rfl, Rn_if_eq (t := 28) rfl dX10_readDeed_13, Rm_aload_n (k := 0) rfl dX10_readDeed_16, Rm_getfield fl_10_22 dX10_readDeed_17, Rn_bipush (v := jI (9)) rfl dX10_readDeed_20, Rm_inV1 (d := dX10_readDeed_22) (hy := mo_52) (h13 := rfl) ml_10_88 rfl, Rn_if_ne (t := 30) rfl dX10_readDeed_25, Rn_iconst (v := jI (0)) rfl dX10_readDeed_28, Rn_ireturn (ty := .boolean) rfl dX10_readDeed_29, Rm_aload_n (k := 1) rfl dX10_readDeed_30, Rm_getfield fl_10_123 dX10_readDeed_31, Rm_iload_n (k := 2) rfl dX10_readDeed_34, Rm_aload_n (k := 1) rfl dX10_readDeed_35, Rm_getfield fl_10_126 dX10_readDeed_36, Rm_getfield fl_10_130 dX10_readDeed_39, Rm_iastore dX10_readDeed_42, Rm_aload_n (k := 0) rfl dX10_readDeed_43, Rm_getfield fl_10_12 dX10_readDeed_44, Rn_iconst (v := jI (1)) rfl dX10_readDeed_47, Rm_putfieldI (ini := false) fl_10_135 rfl rfl dX10_readDeed_48, Rm_aload_n (k := 0) rfl dX10_readDeed_51, Rm_getfield fl_10_12 dX10_readDeed_52, Rm_aload_n (k := 1) rfl dX10_readDeed_55, Rm_getfield fl_10_126 dX10_readDeed_56, Rn_iconst (v := jI (0)) rfl dX10_readDeed_59, Rm_inV2 (d := dX10_readDeed_60) (hy := mo_4) (h13 := rfl) ml_10_138 rfl, Rn_istore_n (k := 3) (nL := 4) rfl rfl dX10_readDeed_63, Rm_aload_n (k := 1) rfl dX10_readDeed_64, Rm_getfield fl_10_142 dX10_readDeed_65, Rm_iload_n (k := 2) rfl dX10_readDeed_68, Rm_aload_n (k := 1) rfl dX10_readDeed_69, Rm_getfield fl_10_126 dX10_readDeed_70, Rm_getfield fl_10_130 dX10_readDeed_73, Rm_iastore dX10_readDeed_76, Rm_iload_n (k := 3) rfl dX10_readDeed_77, Rn_ireturn (ty := .boolean) rfl dX10_readDeed_78, gs0_1 kc, gs9_1 ht, rdM (ka9_1 ht) (la9_1 ht), wrM (ka9_1 ht) (la9_1 ht), alM (ka9_1 ht) (la9_1 ht), gs9_9 ht, gs9_10 ht, rdM (ka9_10 ht) (la9_10 ht), wrM (ka9_10 ht) (la9_10 ht), alM (ka9_10 ht) (la9_10 ht), gs9_11 ht, rdM (ka9_11 ht) (la9_11 ht), wrM (ka9_11 ht) (la9_11 ht), alM (ka9_11 ht) (la9_11 ht), gs10_0 k9, gs10_1 k9, io1 k10, io6 k11, io10 k9, ps1_1 k10, io6 k11, io10 k9, io1 k10, y1, e1, e2, s2, e5, qI_s, qJ_s, qR_s, qV_s, qX_s, qN_s, qW_s, qF_s, qC_s, Option.bind_some, Option.bind_none, Nat.reduceAdd, Nat.reduceBEq, Nat.reduceEqDiff, lk_nil, lk_cons, lk_pt1, lk_pt2i, isJ_i, isJ_r, isJ_l, gI_i, gJ_i, gR_i, Bool.false_eq_true, if_true, if_false, ite_true, ite_false, ↓reduceIte, len4_0, len4_1, len4_2, len4_3, len4_4, Option.toList_some, Option.toList_none, List.cons_append, List.nil_append, va_rf_s, up_hp, ofI_j, jI_add, jI_sub, jI_mul, jI_neg, jL_add, jL_sub, jL_mul, jI_jL, jL_jI, nar_i, nar_zj, lt_t, lt_f, le_t, le_f, eq_t, eq_f, ez_t, ez_f, lz_t, lz_f, gz_t, gz_f, nz_t, nz_f, pz_t, pz_f, lgc_gt, lgc_lt, lgc_ge, lgc_le, lgc_eq, Lt_t, Lt_f, Le_t, Le_f, Eq_t, Eq_f, dv_j, not_true_eq_false, not_false_eq_true, Int.reduceEq, Int.reduceAdd, Int.reduceSub, Int.reduceMul, Int.reduceNeg, Ez_t, Ez_f, dv_L, false_and, true_and, and_true, and_false]
        exact r0
    · rw [hwd] at h2
      obtain ⟨rfl, hfl⟩ := h2
      have r0 := hG1 0 M2 (KGt_n ht K02) (by rw [hwd]; exact ⟨rfl, hfl⟩)
      simp (disch := omega) only [Rm_aload_n (k := 1) rfl dX10_readDeed_0, Rm_getfield fl_10_81 dX10_readDeed_1, Rn_iconst (v := jI (4)) rfl dX10_readDeed_4, Rm_iaload dX10_readDeed_5, Rn_istore_n (k := 2) (nL := 4) rfl rfl dX10_readDeed_6, Rm_aload_n (k := 0) rfl dX10_readDeed_7, Rm_aload_n (k := 1) rfl dX10_readDeed_8, Rn_iconst (v := jI (4)) rfl dX10_readDeed_9, Rm_inV2 (d := dX10_readDeed_10) (hy := mo_87) (h13 := rfl) ml_10_85 rfl, Rn_if_eq (t := 28) rfl dX10_readDeed_13, Rm_aload_n (k := 0) rfl dX10_readDeed_16, Rm_getfield fl_10_22 dX10_readDeed_17, Rn_bipush (v := jI (9)) rfl dX10_readDeed_20, Rm_inV1 (d := dX10_readDeed_22) (hy := mo_52) (h13 := rfl) ml_10_88 rfl, Rn_if_ne (t := 30) rfl dX10_readDeed_25, Rn_iconst (v := jI (0)) rfl dX10_readDeed_28, Rn_ireturn (ty := .boolean) rfl dX10_readDeed_29, gs9_1 ht, rdM (ka9_1 ht) (la9_1 ht), wrM (ka9_1 ht) (la9_1 ht), alM (ka9_1 ht) (la9_1 ht), gs10_1 k9, io6 k11, io10 k9, io6 k11, io10 k9, y1, e1, e2, qI_s, qJ_s, qR_s, qV_s, qX_s, qN_s, qW_s, qF_s, qC_s, Option.bind_some, Option.bind_none, Nat.reduceAdd, Nat.reduceBEq, Nat.reduceEqDiff, lk_nil, lk_cons, lk_pt1, lk_pt2i, isJ_i, isJ_r, isJ_l, gI_i, gJ_i, gR_i, Bool.false_eq_true, if_true, if_false, ite_true, ite_false, ↓reduceIte, len4_0, len4_1, len4_2, len4_3, len4_4, Option.toList_some, Option.toList_none, List.cons_append, List.nil_append, va_rf_s, up_hp, ofI_j, jI_add, jI_sub, jI_mul, jI_neg, jL_add, jL_sub, jL_mul, jI_jL, jL_jI, nar_i, nar_zj, lt_t, lt_f, le_t, le_f, eq_t, eq_f, ez_t, ez_f, lz_t, lz_f, gz_t, gz_f, nz_t, nz_f, pz_t, pz_f, lgc_gt, lgc_lt, lgc_ge, lgc_le, lgc_eq, Lt_t, Lt_f, Le_t, Le_f, Eq_t, Eq_f, dv_j, not_true_eq_false, not_false_eq_true, Int.reduceEq, Int.reduceAdd, Int.reduceSub, Int.reduceMul, Int.reduceNeg, Ez_t, Ez_f, dv_L, false_and, true_and, and_true, and_false]
      exact r0
  · rw [hnf] at h1
    obtain ⟨rfl, hfl⟩ := h1
    have r0 := hG 0 M1 ⟨KGt_n ht K1, by rw [hnf]; exact ⟨rfl, hfl⟩⟩
    simp (disch := omega) only [Rm_aload_n (k := 1) rfl dX10_readDeed_0, Rm_getfield fl_10_81 dX10_readDeed_1, Rn_iconst (v := jI (4)) rfl dX10_readDeed_4, Rm_iaload dX10_readDeed_5, Rn_istore_n (k := 2) (nL := 4) rfl rfl dX10_readDeed_6, Rm_aload_n (k := 0) rfl dX10_readDeed_7, Rm_aload_n (k := 1) rfl dX10_readDeed_8, Rn_iconst (v := jI (4)) rfl dX10_readDeed_9, Rm_inV2 (d := dX10_readDeed_10) (hy := mo_87) (h13 := rfl) ml_10_85 rfl, Rn_if_eq (t := 28) rfl dX10_readDeed_13, Rm_aload_n (k := 0) rfl dX10_readDeed_16, Rm_getfield fl_10_22 dX10_readDeed_17, Rn_bipush (v := jI (9)) rfl dX10_readDeed_20, Rm_inV1 (d := dX10_readDeed_22) (hy := mo_52) (h13 := rfl) ml_10_88 rfl, Rn_if_ne (t := 30) rfl dX10_readDeed_25, Rn_iconst (v := jI (0)) rfl dX10_readDeed_28, Rn_ireturn (ty := .boolean) rfl dX10_readDeed_29, gs9_1 ht, rdM (ka9_1 ht) (la9_1 ht), wrM (ka9_1 ht) (la9_1 ht), alM (ka9_1 ht) (la9_1 ht), gs10_1 k9, io6 k11, io10 k9, io6 k11, io10 k9, y1, e1, qI_s, qJ_s, qR_s, qV_s, qX_s, qN_s, qW_s, qF_s, qC_s, Option.bind_some, Option.bind_none, Nat.reduceAdd, Nat.reduceBEq, Nat.reduceEqDiff, lk_nil, lk_cons, lk_pt1, lk_pt2i, isJ_i, isJ_r, isJ_l, gI_i, gJ_i, gR_i, Bool.false_eq_true, if_true, if_false, ite_true, ite_false, ↓reduceIte, len4_0, len4_1, len4_2, len4_3, len4_4, Option.toList_some, Option.toList_none, List.cons_append, List.nil_append, va_rf_s, up_hp, ofI_j, jI_add, jI_sub, jI_mul, jI_neg, jL_add, jL_sub, jL_mul, jI_jL, jL_jI, nar_i, nar_zj, lt_t, lt_f, le_t, le_f, eq_t, eq_f, ez_t, ez_f, lz_t, lz_f, gz_t, gz_f, nz_t, nz_f, pz_t, pz_f, lgc_gt, lgc_lt, lgc_ge, lgc_le, lgc_eq, Lt_t, Lt_f, Le_t, Le_f, Eq_t, Eq_f, dv_j, not_true_eq_false, not_false_eq_true, Int.reduceEq, Int.reduceAdd, Int.reduceSub, Int.reduceMul, Int.reduceNeg, Ez_t, Ez_f, dv_L, false_and, true_and, and_true, and_false]
    exact r0
set_option maxHeartbeats 8000000 in
theorem s_readOnce {t s j : Nat} {B : BT} (hj67 : j = 6 ∨ j = 7) (hW : Hw H) (hb : Byt g k) (hk : k ≤ 1600) (ht : kd t = 9) (he : e ≤ k) (hT : TK g k e nb M) (hj : tkJ g k e nb = 1) (hC : CN M t B) (hD : BD M t B s) (hB : bdB B) (hs : s ≤ e) (d : Nat) : ∃ (v : Int) (M' : Me), X (d + 76) 85 [.ref 9, .ref t, .int (jI (j : Nat))] (n, z, hp H M) = some (some (.int (jI v)), (n, z, hp H M')) ∧ KGt t M M' ∧ PtC g k t (ocF g k j (e, nb) B) v M' := by
  have t9 := a9 ht
  have kc := kcode ht
  obtain ⟨w1, w2, w3, w4, w5⟩ := id hB
  have y4 := TK_at hT
  obtain ⟨a1, a2, a3, a4⟩ := hD.2.2.2.1.2 j (by omega)
  have hn := nx_P (g := g) (k := k) (p := (e, nb)) he hj (by omega) (by omega)
  have hn1 : e < tkQ g k e := hn.1
  have hnQ : tkQ g k e ≤ k := hn.2
  have et := n_isTold (n := n) (z := z) (H := H) ht (j := (j : Int)) (by omega) (by omega) (d + 74) a1 (by omega) (by omega)
  refine ex2_of fun G hG => ?_
  rw [Xe_X10_readOnce]
  unfold ocF at hG
  by_cases q : tc B.1 j = []
  · rw [if_neg (fun h => h q), show nxP g k (e, nb) = (tkQ g k e, nxB g k e nb) from rfl] at hG
    have hl0 : (tc B.1 j).length = 0 := by rw [q]; rfl
    rw [if_neg (by omega)] at et
    obtain ⟨M2, e2, K2, T2⟩ := s_nextT (n := n) (z := z) (H := H) hW hb hk he hT (d + 69)
    have K02 : KGn t M M2 := KGn_1 K2
    have C2 : CN M2 t B := CN_keep hC (K2.1 _ (by omega)) (K2.1 _ (by omega))
    have D2 := BD_keep (M' := M2) hD (fun b b0 b1 => K02.1 b (by omega)) (fun i i0 i1 => by rw [K02.1 t (by omega)])
    have s2 : M2 (t + 9) 1 = (s : Int) := D2.2.2.2.1.1
    have s3 : ∀ i v, st M2 (t + 11) i v (t + 9) 1 = (s : Int) := fun i v => by rw [st_ne _ _ _ (by omega)]; exact s2
    have T4 : TK g k (tkQ g k e) (nxB g k e nb) (st (st M2 (t + 11) (j : Nat) s) 10 1 0) := TK_fr T2 (by rw [st_ne _ _ _ (by omega), st_ne _ _ _ (by omega)]) (by rw [st_ne _ _ _ (by omega), st_ne _ _ _ (by omega)])
    obtain ⟨v5, M5, e5, P5⟩ := s_codeT (n := n) (z := z) (wh := 0) (tag := 5) (p := (tkQ g k e, nxB g k e nb)) (Or.inr rfl) hW hb hk ht hnQ (by omega) T4 (by rw [st_self, su_self]; rfl) (s := s) (by rw [st_ne _ _ _ (by omega)]; exact s3 _ _) (by show s ≤ tkQ g k e; omega) d
    rw [show mI 5 = 7 from rfl] at e5
    have K5 := P5.1
    have F5 : ∀ b, ¬ (b = 11 ∨ b = 10 ∨ b = t + 9 ∨ b = t + 10 ∨ b = t + 11) → M5 b = M2 b := fun b hb => by rw [K5.1 b (by omega), st_ne _ _ _ (by omega), st_ne _ _ _ (by omega)]
    have F5t : M5 (t + 11) = su (M2 (t + 11)) (j : Nat) s := by rw [K5.1 _ (by omega), st_ne _ _ _ (by omega), st_self]
    have K6 : ∀ i v, KGt t M (st M5 (t + 12) i v) := fun i v => ⟨fun b hb => by rw [st_ne _ _ _ (by omega), F5 b (by omega)]; exact K02.1 b (by omega), fun i hi => by rw [st_ne _ _ _ (by omega), K5.2.1 i hi, st_ne _ _ _ (by omega), st_ne _ _ _ (by omega)]; exact K02.2 i hi, by rw [st_ne _ _ _ (by omega), F5 t (by omega), K02.1 t (by omega)]⟩
    rcases hx : evX g k 0 5 (tkQ g k e, nxB g k e nb) with ⟨e', nb', cs⟩ | x
    · rw [hx] at P5 hG
      obtain ⟨-, rfl, T5, A1, A2, A3⟩ := P5
      have hl := evX_len (by omega) (p := (tkQ g k e, nxB g k e nb)) hnQ hx
      dsimp only at hl
      have s40 : (st (st M2 (t + 11) (j : Nat) s) 10 1 0) (t + 9) 1 = (s : Int) := by rw [st_ne _ _ _ (by omega)]; exact s3 _ _
      have s4a : (st (st M2 (t + 11) (j : Nat) s) 10 1 0) (t + 10) = M2 (t + 10) := by rw [st_ne _ _ _ (by omega), st_ne _ _ _ (by omega)]
      rw [s40] at A1 A2 A3
      rw [show t + 9 + 1 = t + 10 from rfl] at A2 A3
      rw [s4a] at A2
      have r0 := hG 1 (st M5 (t + 12) (j : Nat) ((s + cs.length : Nat) : Int)) ⟨K6 _ _, by
        show (1 : Int) = 1 ∧ TK g k e' nb' _ ∧ CN _ t (setC j cs B) ∧ ∃ s, s ≤ e' ∧ BD _ t (setC j cs B) s
        refine ⟨rfl, TK_fr T5 (st_ne _ _ _ (by omega)) (st_ne _ _ _ (by omega)), CN_keep (B := B) C2 (by rw [st_ne _ _ _ (by omega)]; exact F5 _ (by omega)) (by rw [st_ne _ _ _ (by omega)]; exact F5 _ (by omega)), s + cs.length, by omega, ?_⟩
        have bdc := BDc (M' := st M5 (t + 12) (j : Nat) ((s + cs.length : Nat) : Int)) (j := j) (cs := cs) D2 (by omega) (fun i hi => by rw [st_ne _ _ _ (by omega)]; exact A2 i hi) (by rw [st_ne _ _ _ (by omega)]; exact A3) (by rw [st_ne _ _ _ (by omega)]; exact F5t) (by rw [st_self, F5 (t + 12) (by omega)])
        obtain ⟨d1, d2, d3, -, d5⟩ := D2
        refine ⟨?_, ?_, ?_, ⟨?_, fun i hi => ?_⟩, ?_⟩
        · rw [st_ne _ _ _ (by omega), F5 (t + 3) (by omega)]; exact d1
        · rw [st_ne _ _ _ (by omega), st_ne _ _ _ (by omega), F5 (t + 4) (by omega), F5 (t + 5) (by omega)]; exact d2
        · rw [st_ne _ _ _ (by omega), st_ne _ _ _ (by omega), st_ne _ _ _ (by omega), F5 (t + 6) (by omega), F5 (t + 7) (by omega), F5 (t + 8) (by omega)]; exact d3
        · rw [st_ne _ _ _ (by omega), A1]; omega
        · exact bdc i (Or.inl hi)
        · rw [st_ne _ _ _ (by omega), F5 t (by omega)]; exact d5⟩
      have A1' : M5 (t + 9) 1 = ((s + cs.length : Nat) : Int) := by rw [A1]; omega
      simp (disch := omega) only [Rm_aload_n (k := 1) rfl dX10_readOnce_0, Rm_iload_n (k := 2) rfl dX10_readOnce_1, Rm_inV1 (d := dX10_readOnce_2) (hy := mo_73) (h13 := rfl) ml_10_145 rfl, Rn_if_eq (t := 24) rfl dX10_readOnce_5, Rm_aload_n (k := 0) rfl dX10_readOnce_8, Rm_getfield fl_10_22 dX10_readOnce_9, Rn_iconst (v := jI (5)) rfl dX10_readOnce_12, Rm_aload_n (k := 0) rfl dX10_readOnce_13, Rm_getfield fl_10_22 dX10_readOnce_14, Rm_getfield fl_10_38 dX10_readOnce_17, Rm_inV2 (d := dX10_readOnce_20) (hy := mo_51) (h13 := rfl) ml_10_41 rfl, Rn_ireturn (ty := .boolean) rfl dX10_readOnce_23, Rm_aload_n (k := 0) rfl dX10_readOnce_24, Rm_getfield fl_10_22 dX10_readOnce_25, Rm_inV0 (d := dX10_readOnce_28) (hy := mo_42) (h13 := rfl) ml_10_102 rfl, Rm_aload_n (k := 1) rfl dX10_readOnce_31, Rm_getfield fl_10_123 dX10_readOnce_32, Rm_iload_n (k := 2) rfl dX10_readOnce_35, Rm_aload_n (k := 1) rfl dX10_readOnce_36, Rm_getfield fl_10_126 dX10_readOnce_37, Rm_getfield fl_10_130 dX10_readOnce_40, Rm_iastore dX10_readOnce_43, Rm_aload_n (k := 0) rfl dX10_readOnce_44, Rm_getfield fl_10_12 dX10_readOnce_45, Rn_iconst (v := jI (0)) rfl dX10_readOnce_48, Rm_putfieldI (ini := false) fl_10_135 rfl rfl dX10_readOnce_49, Rm_aload_n (k := 0) rfl dX10_readOnce_52, Rm_getfield fl_10_12 dX10_readOnce_53, Rm_aload_n (k := 1) rfl dX10_readOnce_56, Rm_getfield fl_10_126 dX10_readOnce_57, Rn_iconst (v := jI (0)) rfl dX10_readOnce_60, Rm_inV2 (d := dX10_readOnce_61) (hy := mo_7) (h13 := rfl) ml_10_148 rfl, Rn_istore_n (k := 3) (nL := 4) rfl rfl dX10_readOnce_64, Rm_aload_n (k := 1) rfl dX10_readOnce_65, Rm_getfield fl_10_142 dX10_readOnce_66, Rm_iload_n (k := 2) rfl dX10_readOnce_69, Rm_aload_n (k := 1) rfl dX10_readOnce_70, Rm_getfield fl_10_126 dX10_readOnce_71, Rm_getfield fl_10_130 dX10_readOnce_74, Rm_iastore dX10_readOnce_77, Rm_iload_n (k := 3) rfl dX10_readOnce_78, Rn_ireturn (ty := .boolean) rfl dX10_readOnce_79, gs0_1 kc, gs6_4 k11, gs9_9 ht, gs9_10 ht, rdM (ka9_10 ht) (la9_10 ht), wrM (ka9_10 ht) (la9_10 ht), alM (ka9_10 ht) (la9_10 ht), gs9_11 ht, rdM (ka9_11 ht) (la9_11 ht), wrM (ka9_11 ht) (la9_11 ht), alM (ka9_11 ht) (la9_11 ht), gs10_0 k9, gs10_1 k9, io1 k10, io6 k11, io9 ht, ps1_1 k10, io6 k11, io9 ht, io1 k10, et, e2, s2, e5, A1', qI_s, qJ_s, qR_s, qV_s, qX_s, qN_s, qW_s, qF_s, qC_s, Option.bind_some, Option.bind_none, Nat.reduceAdd, Nat.reduceBEq, Nat.reduceEqDiff, lk_nil, lk_cons, lk_pt1, lk_pt2i, isJ_i, isJ_r, isJ_l, gI_i, gJ_i, gR_i, Bool.false_eq_true, if_true, if_false, ite_true, ite_false, ↓reduceIte, len4_0, len4_1, len4_2, len4_3, len4_4, Option.toList_some, Option.toList_none, List.cons_append, List.nil_append, va_rf_s, up_hp, ofI_j, jI_add, jI_sub, jI_mul, jI_neg, jL_add, jL_sub, jL_mul, jI_jL, jL_jI, nar_i, nar_zj, lt_t, lt_f, le_t, le_f, eq_t, eq_f, ez_t, ez_f, lz_t, lz_f, gz_t, gz_f, nz_t, nz_f, pz_t, pz_f, lgc_gt, lgc_lt, lgc_ge, lgc_le, lgc_eq, Lt_t, Lt_f, Le_t, Le_f, Eq_t, Eq_f, dv_j, not_true_eq_false, not_false_eq_true, Int.reduceEq, Int.reduceAdd, Int.reduceSub, Int.reduceMul, Int.reduceNeg, Ez_t, Ez_f, dv_L, false_and, true_and, and_true, and_false]
      exact r0
    · rw [hx] at P5 hG
      obtain ⟨-, rfl, hfl⟩ := P5
      have r0 := hG 0 (st M5 (t + 12) (j : Nat) (M5 (t + 9) 1)) ⟨K6 _ _, rfl, by unfold Fl11; rw [st_ne _ _ _ (by omega)]; exact hfl⟩
      simp (disch := omega) only [Rm_aload_n (k := 1) rfl dX10_readOnce_0, Rm_iload_n (k := 2) rfl dX10_readOnce_1, Rm_inV1 (d := dX10_readOnce_2) (hy := mo_73) (h13 := rfl) ml_10_145 rfl, Rn_if_eq (t := 24) rfl dX10_readOnce_5, Rm_aload_n (k := 0) rfl dX10_readOnce_8, Rm_getfield fl_10_22 dX10_readOnce_9, Rn_iconst (v := jI (5)) rfl dX10_readOnce_12, Rm_aload_n (k := 0) rfl dX10_readOnce_13, Rm_getfield fl_10_22 dX10_readOnce_14, Rm_getfield fl_10_38 dX10_readOnce_17, Rm_inV2 (d := dX10_readOnce_20) (hy := mo_51) (h13 := rfl) ml_10_41 rfl, Rn_ireturn (ty := .boolean) rfl dX10_readOnce_23, Rm_aload_n (k := 0) rfl dX10_readOnce_24, Rm_getfield fl_10_22 dX10_readOnce_25, Rm_inV0 (d := dX10_readOnce_28) (hy := mo_42) (h13 := rfl) ml_10_102 rfl, Rm_aload_n (k := 1) rfl dX10_readOnce_31, Rm_getfield fl_10_123 dX10_readOnce_32, Rm_iload_n (k := 2) rfl dX10_readOnce_35, Rm_aload_n (k := 1) rfl dX10_readOnce_36, Rm_getfield fl_10_126 dX10_readOnce_37, Rm_getfield fl_10_130 dX10_readOnce_40, Rm_iastore dX10_readOnce_43, Rm_aload_n (k := 0) rfl dX10_readOnce_44, Rm_getfield fl_10_12 dX10_readOnce_45, Rn_iconst (v := jI (0)) rfl dX10_readOnce_48, Rm_putfieldI (ini := false) fl_10_135 rfl rfl dX10_readOnce_49, Rm_aload_n (k := 0) rfl dX10_readOnce_52, Rm_getfield fl_10_12 dX10_readOnce_53, Rm_aload_n (k := 1) rfl dX10_readOnce_56, Rm_getfield fl_10_126 dX10_readOnce_57, Rn_iconst (v := jI (0)) rfl dX10_readOnce_60, Rm_inV2 (d := dX10_readOnce_61) (hy := mo_7) (h13 := rfl) ml_10_148 rfl, Rn_istore_n (k := 3) (nL := 4) rfl rfl dX10_readOnce_64, Rm_aload_n (k := 1) rfl dX10_readOnce_65, Rm_getfield fl_10_142 dX10_readOnce_66, Rm_iload_n (k := 2) rfl dX10_readOnce_69, Rm_aload_n (k := 1) rfl dX10_readOnce_70, Rm_getfield fl_10_126 dX10_readOnce_71, Rm_getfield fl_10_130 dX10_readOnce_74, Rm_iastore dX10_readOnce_77, Rm_iload_n (k := 3) rfl dX10_readOnce_78, Rn_ireturn (ty := .boolean) rfl dX10_readOnce_79, gs0_1 kc, gs6_4 k11, gs9_9 ht, gs9_10 ht, rdM (ka9_10 ht) (la9_10 ht), wrM (ka9_10 ht) (la9_10 ht), alM (ka9_10 ht) (la9_10 ht), gs9_11 ht, rdM (ka9_11 ht) (la9_11 ht), wrM (ka9_11 ht) (la9_11 ht), alM (ka9_11 ht) (la9_11 ht), gs10_0 k9, gs10_1 k9, io1 k10, io6 k11, io9 ht, ps1_1 k10, io6 k11, io9 ht, io1 k10, et, e2, s2, e5, qI_s, qJ_s, qR_s, qV_s, qX_s, qN_s, qW_s, qF_s, qC_s, Option.bind_some, Option.bind_none, Nat.reduceAdd, Nat.reduceBEq, Nat.reduceEqDiff, lk_nil, lk_cons, lk_pt1, lk_pt2i, isJ_i, isJ_r, isJ_l, gI_i, gJ_i, gR_i, Bool.false_eq_true, if_true, if_false, ite_true, ite_false, ↓reduceIte, len4_0, len4_1, len4_2, len4_3, len4_4, Option.toList_some, Option.toList_none, List.cons_append, List.nil_append, va_rf_s, up_hp, ofI_j, jI_add, jI_sub, jI_mul, jI_neg, jL_add, jL_sub, jL_mul, jI_jL, jL_jI, nar_i, nar_zj, lt_t, lt_f, le_t, le_f, eq_t, eq_f, ez_t, ez_f, lz_t, lz_f, gz_t, gz_f, nz_t, nz_f, pz_t, pz_f, lgc_gt, lgc_lt, lgc_ge, lgc_le, lgc_eq, Lt_t, Lt_f, Le_t, Le_f, Eq_t, Eq_f, dv_j, not_true_eq_false, not_false_eq_true, Int.reduceEq, Int.reduceAdd, Int.reduceSub, Int.reduceMul, Int.reduceNeg, Ez_t, Ez_f, dv_L, false_and, true_and, and_true, and_false]
      exact r0
  · rw [if_pos q] at hG
    have hl0 : 0 < (tc B.1 j).length := List.length_pos_iff.mpr q
    rw [if_pos (by omega)] at et
    have r := hG 0 (wrM1 M 5 (skp g k e)) ⟨KGt_n ht (KGn_1 (KG1_w _ _ _)), rfl, wr_Fl M 5 _⟩
    simp (disch := omega) only [Rm_aload_n (k := 1) rfl dX10_readOnce_0, Rm_iload_n (k := 2) rfl dX10_readOnce_1, Rm_inV1 (d := dX10_readOnce_2) (hy := mo_73) (h13 := rfl) ml_10_145 rfl, Rn_if_eq (t := 24) rfl dX10_readOnce_5, Rm_aload_n (k := 0) rfl dX10_readOnce_8, Rm_getfield fl_10_22 dX10_readOnce_9, Rn_iconst (v := jI (5)) rfl dX10_readOnce_12, Rm_aload_n (k := 0) rfl dX10_readOnce_13, Rm_getfield fl_10_22 dX10_readOnce_14, Rm_getfield fl_10_38 dX10_readOnce_17, Rm_inV2 (d := dX10_readOnce_20) (hy := mo_51) (h13 := rfl) ml_10_41 rfl, Rn_ireturn (ty := .boolean) rfl dX10_readOnce_23, gs6_4 k11, gs10_1 k9, io6 k11, io9 ht, io6 k11, io9 ht, et, y4, s_wrong, qI_s, qJ_s, qR_s, qV_s, qX_s, qN_s, qW_s, qF_s, qC_s, Option.bind_some, Option.bind_none, Nat.reduceAdd, Nat.reduceBEq, Nat.reduceEqDiff, lk_nil, lk_cons, lk_pt1, lk_pt2i, isJ_i, isJ_r, isJ_l, gI_i, gJ_i, gR_i, Bool.false_eq_true, if_true, if_false, ite_true, ite_false, ↓reduceIte, len4_0, len4_1, len4_2, len4_3, len4_4, Option.toList_some, Option.toList_none, List.cons_append, List.nil_append, va_rf_s, up_hp, ofI_j, jI_add, jI_sub, jI_mul, jI_neg, jL_add, jL_sub, jL_mul, jI_jL, jL_jI, nar_i, nar_zj, lt_t, lt_f, le_t, le_f, eq_t, eq_f, ez_t, ez_f, lz_t, lz_f, gz_t, gz_f, nz_t, nz_f, pz_t, pz_f, lgc_gt, lgc_lt, lgc_ge, lgc_le, lgc_eq, Lt_t, Lt_f, Le_t, Le_f, Eq_t, Eq_f, dv_j, not_true_eq_false, not_false_eq_true, Int.reduceEq, Int.reduceAdd, Int.reduceSub, Int.reduceMul, Int.reduceNeg, Ez_t, Ez_f, dv_L, false_and, true_and, and_true, and_false]
    exact r
end

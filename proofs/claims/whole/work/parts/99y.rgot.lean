/-! a test told: the reference; behind a fact -/
theorem cnN_split (p : Nat → Bool) (V : List Nat) : cnN V = cnN (V.takeWhile p) + cnN (V.dropWhile p) := by
  induction V with
  | nil => rfl
  | cons x r ih =>
    by_cases q : p x = true
    · simp only [List.takeWhile, List.dropWhile, q, cnN]; omega
    · have q : p x = false := by simpa using q
      simp only [List.takeWhile, List.dropWhile, q, cnN]; omega
theorem sq_dec {V : List Nat} (h : 25 ∈ V) : ∃ V', V.dropWhile (fun x => !isSq x) = 25 :: V' := by
  induction V with
  | nil => cases h
  | cons x r ih =>
    by_cases q : x = 25
    · subst q
      exact ⟨r, rfl⟩
    · have q' : isSq x = false := by unfold isSq; rw [decide_eq_false_iff_not]; exact q
      have h' : 25 ∈ r := by
        rcases List.mem_cons.mp h with h | h
        · exact absurd h.symm q
        · exact h
      obtain ⟨V', e⟩ := ih h'
      exact ⟨V', by simp only [List.dropWhile, q', Bool.not_false]; exact e⟩
/-- what holds of a configuration -/
def CTs (k : Nat) (c : Cfg) : Prop := c.2.1 ≤ k ∧ c.2.2.2.1 ≤ 6 ∧ cnN c.2.2.2.2.1 ≤ c.2.2.2.1 ∧ (∀ x ∈ c.2.2.2.2.1, 10 ≤ x ∧ x < 1000) ∧ c.2.2.2.2.1.length + c.2.2.2.2.2.length ≤ c.2.1
/-- a configuration in the memory -/
def RCt (g : Int → Int) (k wh b : Nat) (c : Cfg) (M : Me) : Prop := PQ g k c.2.1 c.2.2.1 M ∧ QS c.2.2.2.2.1.reverse c.2.2.2.2.2 c.2.2.2.1 b wh M ∧ WK M
theorem CT_sign {k e e' op s : Nat} {nb nb' : Bool} {V C : List Nat} (p : Nat → Bool) (h : CTs k (2, e, nb, op, V, C)) (h1 : e < e') (h2 : e' ≤ k) (hs : s = 10 ∨ s = 11) : CTs k (0, e', nb', op, s :: V.dropWhile p, C ++ V.takeWhile p) := by
  obtain ⟨a1, a2, a3, a4, a5⟩ := h
  dsimp only at a1 a2 a3 a4 a5
  have s1 := cnN_split p V
  have s2 := len_split p V
  refine ⟨h2, a2, ?_, ?_, ?_⟩
  · show cnN (s :: V.dropWhile p) ≤ op
    simp only [cnN]
    rw [if_neg (by omega)]
    omega
  · intro x hx
    rcases List.mem_cons.mp hx with h | hx
    · omega
    · exact a4 x ((List.dropWhile_sublist _).subset hx)
  · show (s :: V.dropWhile p).length + (C ++ V.takeWhile p).length ≤ e'
    simp only [List.length_cons, List.length_append]
    omega
section
variable {n z : Nat} {H : Nat → AC} {g : Int → Int} {k wh : Nat}
theorem t2_eq (f e op : Nat) (nb : Bool) (V C : List Nat) : tst g k wh f (2, e, nb, op, V, C) = @ite _ (isSg g k e 93 ∧ 25 ∈ V) (Classical.propDecidable _) (1, tkQ g k e, nxB g k e nb, op - 1, (V.dropWhile fun x => !isSq x).tail, C ++ V.takeWhile fun x => !isSq x)
    (@ite _ (isWd g k e nb 26) (Classical.propDecidable _) (0, tkQ g k e, nxB g k e nb, op, 10 :: V.dropWhile isAn, C ++ V.takeWhile isAn)
    (@ite _ (isWd g k e nb 25) (Classical.propDecidable _) (0, tkQ g k e, nxB g k e nb, op, 11 :: V.dropWhile isAO, C ++ V.takeWhile isAO)
    (if 25 ∈ V then Flt 1 (skp g k e) else (4, e, nb, op, V, C)))) := by
  unfold tst
  dsimp only
  rw [if_neg (by omega), if_neg (by omega), if_pos rfl]
theorem m_dropSq (G : Option Rs → Prop) (d : Nat) {b : Nat} : ∀ (V C : List Nat) (op : Nat) (M1 : Me) (l1 : Lo), 25 ∈ V → (∀ x ∈ V, x < 1000) → V.length + C.length < 1690 → QS V.reverse C op b wh M1 → lk l1 0 = some (.ref 218) → (∀ M', QS (V.dropWhile fun x => !isSq x).reverse (C ++ V.takeWhile fun x => !isSq x) op b wh M' ∧ KB M1 M' ∧ (∀ i, ¬ (i = 92 ∨ i = 94) → M' 218 i = M1 218 i) → G (Rn (X (d + 2)) 12 (some .boolean) false 1 cX12_qGoesOnTest (49, l1, [], (n, z, hp H M')))) → G (Rn (X (d + 2)) 12 (some .boolean) false 1 cX12_qGoesOnTest (33, l1, [], (n, z, hp H M1))) := by
  intro V
  induction V with
  | nil => intro C op M1 l1 h; cases h
  | cons x r ih =>
    intro C op M1 l1 h25 hV hl hQ q0 hG
    have hQ' := hQ
    rw [List.reverse_cons] at hQ'
    simp only [List.length_cons] at hl
    have e1 := m_qIsOn_t (n := n) (z := z) (H := H) hQ' (by simp; omega) (hV x (by simp)) (show 25 < 1000 by omega) (d + 1)
    rw [Int.cast_ofNat_Int] at e1
    rw [Rm_aload_n (k := 0) rfl dX12_qGoesOnTest_33]
    by_cases q : x = 25
    · subst q
      rw [if_pos rfl] at e1
      have qm : isSq 25 = true := rfl
      have r0 := hG M1 ⟨by simp only [List.dropWhile, List.takeWhile, qm, Bool.not_true, List.append_nil]; exact hQ, KB_refl M1, fun _ _ => rfl⟩
      simp (disch := omega) only [Rn_bipush (v := jI (25)) rfl dX12_qGoesOnTest_34, Rm_inV1 (d := dX12_qGoesOnTest_36) (hy := mo_240) (h13 := rfl) ml_12_637 rfl, Rn_if_ne (t := 49) rfl dX12_qGoesOnTest_39, io12 k218, io12 k218, q0, e1, qI_s, qJ_s, qR_s, qV_s, qX_s, qN_s, qW_s, qF_s, qC_s, Option.bind_some, Option.bind_none, Nat.reduceAdd, Nat.reduceBEq, Nat.reduceEqDiff, lk_nil, lk_cons, lk_pt1, lk_pt2i, isJ_i, isJ_r, isJ_l, gI_i, gJ_i, gR_i, Bool.false_eq_true, if_true, if_false, ite_true, ite_false, ↓reduceIte, len4_0, len4_1, len4_2, len4_3, len4_4, Option.toList_some, Option.toList_none, List.cons_append, List.nil_append, va_rf_s, up_hp, ofI_j, jI_add, jI_sub, jI_mul, jI_neg, jL_add, jL_sub, jL_mul, jI_jL, jL_jI, nar_i, nar_zj, lt_t, lt_f, le_t, le_f, eq_t, eq_f, ez_t, ez_f, lz_t, lz_f, gz_t, gz_f, nz_t, nz_f, pz_t, pz_f, lgc_gt, lgc_lt, lgc_ge, lgc_le, lgc_eq, Lt_t, Lt_f, Le_t, Le_f, Eq_t, Eq_f, dv_j, not_true_eq_false, not_false_eq_true, Int.reduceEq, Int.reduceAdd, Int.reduceSub, Int.reduceMul, Int.reduceNeg, Ez_t, Ez_f, dv_L, false_and, true_and, and_true, and_false]
      exact r0
    · rw [if_neg q] at e1
      have qm : isSq x = false := by unfold isSq; rw [decide_eq_false_iff_not]; exact q
      have h' : 25 ∈ r := by
        rcases List.mem_cons.mp h25 with h | h
        · exact absurd h.symm q
        · exact h
      obtain ⟨M2, e2, q2, K2, f2⟩ := m_qDrops (n := n) (z := z) (H := H) hQ' (by simp; omega) (by omega) d
      have hi := ih (C ++ [x]) op M2 l1 h' (fun y hy => hV y (by simp [hy])) (by simp; omega) q2 q0 (fun M' h => by
        obtain ⟨h1, h2, h3⟩ := h
        refine hG M' ⟨?_, KB_trans K2 h2, fun i hi => (h3 i hi).trans (f2 i hi)⟩
        simp only [List.dropWhile, List.takeWhile, qm, Bool.not_false]
        rw [List.append_assoc] at h1
        exact h1)
      simp (disch := omega) only [Rn_bipush (v := jI (25)) rfl dX12_qGoesOnTest_34, Rm_inV1 (d := dX12_qGoesOnTest_36) (hy := mo_240) (h13 := rfl) ml_12_637 rfl, Rn_if_ne (t := 49) rfl dX12_qGoesOnTest_39, Rm_aload_n (k := 0) rfl dX12_qGoesOnTest_42, Rm_inV0 (d := dX12_qGoesOnTest_43) (hy := mo_241) (h13 := rfl) ml_12_610 rfl, Rn_goto (t := 33) rfl dX12_qGoesOnTest_46, io12 k218, io12 k218, q0, e1, e2, qI_s, qJ_s, qR_s, qV_s, qX_s, qN_s, qW_s, qF_s, qC_s, Option.bind_some, Option.bind_none, Nat.reduceAdd, Nat.reduceBEq, Nat.reduceEqDiff, lk_nil, lk_cons, lk_pt1, lk_pt2i, isJ_i, isJ_r, isJ_l, gI_i, gJ_i, gR_i, Bool.false_eq_true, if_true, if_false, ite_true, ite_false, ↓reduceIte, len4_0, len4_1, len4_2, len4_3, len4_4, Option.toList_some, Option.toList_none, List.cons_append, List.nil_append, va_rf_s, up_hp, ofI_j, jI_add, jI_sub, jI_mul, jI_neg, jL_add, jL_sub, jL_mul, jI_jL, jL_jI, nar_i, nar_zj, lt_t, lt_f, le_t, le_f, eq_t, eq_f, ez_t, ez_f, lz_t, lz_f, gz_t, gz_f, nz_t, nz_f, pz_t, pz_f, lgc_gt, lgc_lt, lgc_ge, lgc_le, lgc_eq, Lt_t, Lt_f, Le_t, Le_f, Eq_t, Eq_f, dv_j, not_true_eq_false, not_false_eq_true, Int.reduceEq, Int.reduceAdd, Int.reduceSub, Int.reduceMul, Int.reduceNeg, Ez_t, Ez_f, dv_L, false_and, true_and, and_true, and_false]
      exact hi
/-- how going on ends -/
def GtE (g : Int → Int) (k wh b a : Nat) (t : Cfg) (v : Int) (M' : Me) : Prop := (v = 1 ∧ ∃ (a' : Nat) (c' : Cfg), a' < a ∧ c'.1 = 0 ∧ TSt g k wh a' c' t ∧ CTs k c' ∧ RCt g k wh b c' M') ∨ (v = 0 ∧ t.1 = 4 ∧ CTs k t ∧ RCt g k wh b t M') ∨ (v = 0 ∧ ∃ fa fp : Nat, t = Flt fa fp ∧ (1 ≤ fa ∧ fa < 100) ∧ FL M' fa fp ∧ QB M')
set_option maxHeartbeats 8000000 in
theorem m_qGoesOnTest (hb : Byt g k) (hk : k ≤ 1600) {M : Me} {e op b a : Nat} {nb : Bool} {V C : List Nat} {t : Cfg} (ht : t.1 = 3 ∨ t.1 = 4) (hp0 : TSt g k wh a (2, e, nb, op, V, C) t) (hc : CTs k (2, e, nb, op, V, C)) (hM : RCt g k wh b (2, e, nb, op, V, C) M) (d : Nat) :
    ∃ (v : Int) (M' : Me), X (d + 5) 256 [.ref 218] (n, z, hp H M) = some (some (.int (jI v)), (n, z, hp H M')) ∧ KB M M' ∧ GtE g k wh b a t v M' := by
  refine ex2_of fun G hG => ?_
  have key : ∀ μ : Nat, ∀ (e op a1 : Nat) (nb : Bool) (V C : List Nat) (M1 : Me) (l1 : Lo), k - e = μ → a1 ≤ a → TSt g k wh a1 (2, e, nb, op, V, C) t → CTs k (2, e, nb, op, V, C) → RCt g k wh b (2, e, nb, op, V, C) M1 → KB M M1 → lk l1 0 = some (.ref 218) → G (Rn (X (d + 4)) 12 (some .boolean) false 1 cX12_qGoesOnTest (0, l1, [], (n, z, hp H M1))) := by
    intro μ
    induction μ using Nat.strongRecOn with
    | ind μ ih =>
    intro e op a1 nb V C M1 l1 hμ ha1 htp hci hR hKB q0
    obtain ⟨a2, f, rfl, hpn⟩ := TSt_pos htp ht (by show 2 < 3; omega)
    have htp := hpn
    rw [t2_eq] at htp
    obtain ⟨hP, hQ, hWK⟩ := id hR
    dsimp only at hP hQ
    obtain ⟨he, hop, hcnt, hV, hlen⟩ := id hci
    dsimp only at he hop hcnt hV hlen
    have y5 : M1 218 5 = 0 := hP.2.2.2.2.1
    obtain ⟨M2, e2, f1, f2, f3⟩ := m_peeks (n := n) (z := z) (H := H) hb hk he hP.1 hP.2.1 hP.2.2.1 (d + 3)
    have hP2 := PQ_pk he hP f1 f2 f3
    have K2 : KT M1 M2 := KT_2 f1 f2
    have hQ2 := QS_T hQ K2
    have hWK2 := WK_T hWK K2
    have KB2 : KB M M2 := KB_trans hKB (KB_T K2)
    have pr := pkV_rng hb he
    have i93 := pk_Sg (g := g) (k := k) (e := e) (c := 93) (by decide) (by omega)
    have ehs := fun (M3 : Me) (hQ3 : QS V.reverse C op b wh M3) => m_qHasSquare (n := n) (z := z) (H := H) (by simp; omega) (fun x hx => (hV x (List.mem_reverse.mp hx)).2) hQ3 (d + 3)
    simp only [List.mem_reverse] at ehs
    have sk := skp_prop (g := g) he
    by_cases hA : isSg g k e 93 ∧ 25 ∈ V
    · have p93 := i93.mpr hA.1
      have hn := nx_step (g := g) he (by have := Sg_K hA.1; omega)
      rw [if_pos hA] at htp
      obtain ⟨V', hdw⟩ := sq_dec hA.2
      rw [hdw, List.tail_cons] at htp
      have eh := ehs M2 hQ2
      rw [if_pos hA.2] at eh
      have hP3 := PQ_sg he hP2 hA.1
      have K3 : KT M2 (st M2 218 2 (skp g k e + 1)) := KT_st (KT_refl M2) (by omega)
      have hQ3 := QS_T hQ2 K3
      have s1 := cnN_split (fun x => !isSq x) V
      have s2 := len_split (fun x => !isSq x) V
      rw [hdw] at s1 s2
      rw [show cnN (25 :: V') = 1 + cnN V' from rfl] at s1
      rw [List.length_cons] at s2
      have hV' : ∀ x ∈ V', 10 ≤ x ∧ x < 1000 := fun x hx => hV x ((List.dropWhile_sublist (fun x => !isSq x)).subset (by rw [hdw]; exact List.mem_cons_of_mem _ hx))
      have cont : ∀ M', QS (V.dropWhile fun x => !isSq x).reverse (C ++ V.takeWhile fun x => !isSq x) op b wh M' ∧ KB (st M2 218 2 (skp g k e + 1)) M' ∧ (∀ i, ¬ (i = 92 ∨ i = 94) → M' 218 i = (st M2 218 2 (skp g k e + 1)) 218 i) → G (Rn (X (d + 4)) 12 (some .boolean) false 1 cX12_qGoesOnTest (49, l1, [], (n, z, hp H M'))) := by
        rintro M4 ⟨hQ4, K4, f4⟩
        rw [hdw, List.reverse_cons] at hQ4
        generalize hD : V.takeWhile (fun x => !isSq x) = D at *
        obtain ⟨a1, a2', a3, a4, a5⟩ := hQ4
        rw [il_app] at a1
        obtain ⟨t1, t2⟩ := LSq_top (x := (25 : Int)) a1
        rw [il_len, List.length_reverse] at t1 t2
        have y94 : M4 218 94 = (V'.length : Int) + 1 := t1
        have hM6 : ∀ (i : Int), ¬ (i = 94 ∨ i = 95) → (st (st M4 218 94 (V'.length : Int)) 218 95 ((op : Int) - 1)) 218 i = M4 218 i := fun i hi => by rw [st_self, su_ne _ _ (by omega), st_self, su_ne _ _ (by omega)]
        have hQ6 : QS V'.reverse (C ++ D) (op - 1) b wh (st (st M4 218 94 (V'.length : Int)) 218 95 ((op : Int) - 1)) := ⟨LSq_pop a1 (by rw [st_self, su_ne _ _ (by omega), st_self, su_self, t1]; omega) (by rw [st_ne _ _ _ (by omega), st_ne _ _ _ (by omega)]), LSq_frame a2' (hM6 92 (by omega)) (by rw [st_ne _ _ _ (by omega), st_ne _ _ _ (by omega)]), by rw [st_self, su_self]; omega, by rw [hM6 96 (by omega)]; exact a4, by rw [hM6 51 (by omega)]; exact a5⟩
        have hP6 : PQ g k (tkQ g k e) (nxB g k e nb) (st (st M4 218 94 (V'.length : Int)) 218 95 ((op : Int) - 1)) := PQ_B hP3 (by rw [st_ne _ _ _ (by omega), st_ne _ _ _ (by omega), K4.1 219 (by omega)]) (fun i hi => by rw [hM6 i (by omega), f4 i (by omega)])
        have K6 : KB M4 (st (st M4 218 94 (V'.length : Int)) 218 95 ((op : Int) - 1)) := ⟨fun b hb => by rw [st_ne _ _ _ (by omega), st_ne _ _ _ (by omega)], fun i hi => hM6 i (by omega)⟩
        have KB6 := KB_trans KB2 (KB_trans (KB_T K3) (KB_trans K4 K6))
        have hWK6 := WK_B hWK2 (KB_trans (KB_T K3) (KB_trans K4 K6))
        obtain ⟨M8, e8, ⟨V'', C'', op'', hfol, b2, b3, b4, b5, hQ8⟩, K8, f8⟩ := m_qDropsNots (n := n) (z := z) (H := H) (e := tkQ g k e) (nb := nxB g k e nb) (fun x hx => (hV' x hx).2) (by simp only [List.length_append]; omega) (show cnN V' ≤ op - 1 by omega) hQ6 hP6.2.2.2.2.1 (d + 1)
        obtain ⟨a3', ha3, hp3⟩ := hfol _ _ ht htp
        have hci8 : CTs k (2, tkQ g k e, nxB g k e nb, op'', V'', C'') := by
          refine ⟨hn.2, by show op'' ≤ 6; omega, b2, fun x hx => hV' x (b5 x hx), ?_⟩
          show V''.length + C''.length ≤ tkQ g k e
          rw [b4]
          simp only [List.length_append]
          omega
        have hi := ih (k - tkQ g k e) (by omega) _ _ a3' _ _ _ M8 l1 rfl (by omega) hp3 hci8 ⟨PQ_B hP6 (K8.1 219 (by omega)) (fun i hi => f8 i (by omega)), hQ8, WK_B hWK6 K8⟩ (KB_trans KB6 K8) q0
        have e94 : (V'.length : Int) + 1 - 1 = (V'.length : Int) := by omega
        have y495 : (st M4 218 94 (V'.length : Int)) 218 95 = op := by rw [st_self, su_ne _ _ (by omega)]; exact a3
        rw [Rm_aload_n (k := 0) rfl dX12_qGoesOnTest_49]
        simp (disch := omega) only [Rn_dup_int dX12_qGoesOnTest_50, Rn_dup_ref dX12_qGoesOnTest_50, Rm_getfield fl_12_344 dX12_qGoesOnTest_51, Rn_iconst (v := jI (1)) rfl dX12_qGoesOnTest_54, Rn_isub dX12_qGoesOnTest_55, Rm_putfieldI (ini := false) fl_12_344 rfl rfl dX12_qGoesOnTest_56, Rm_aload_n (k := 0) rfl dX12_qGoesOnTest_59, Rn_dup_int dX12_qGoesOnTest_60, Rn_dup_ref dX12_qGoesOnTest_60, Rm_getfield fl_12_347 dX12_qGoesOnTest_61, Rn_iconst (v := jI (1)) rfl dX12_qGoesOnTest_64, Rn_isub dX12_qGoesOnTest_65, Rm_putfieldI (ini := false) fl_12_347 rfl rfl dX12_qGoesOnTest_66, Rm_aload_n (k := 0) rfl dX12_qGoesOnTest_69, Rm_inV0 (d := dX12_qGoesOnTest_70) (hy := mo_254) (h13 := rfl) ml_12_649 rfl, Rn_goto (t := 0) rfl dX12_qGoesOnTest_73, gs12_94 k218, gs12_95 k218, io12 k218, ps12_94 k218, ps12_95 k218, io12 k218, q0, y94, e94, y495, e8, qI_s, qJ_s, qR_s, qV_s, qX_s, qN_s, qW_s, qF_s, qC_s, Option.bind_some, Option.bind_none, Nat.reduceAdd, Nat.reduceBEq, Nat.reduceEqDiff, lk_nil, lk_cons, lk_pt1, lk_pt2i, isJ_i, isJ_r, isJ_l, gI_i, gJ_i, gR_i, Bool.false_eq_true, if_true, if_false, ite_true, ite_false, ↓reduceIte, len4_0, len4_1, len4_2, len4_3, len4_4, Option.toList_some, Option.toList_none, List.cons_append, List.nil_append, va_rf_s, up_hp, ofI_j, jI_add, jI_sub, jI_mul, jI_neg, jL_add, jL_sub, jL_mul, jI_jL, jL_jI, nar_i, nar_zj, lt_t, lt_f, le_t, le_f, eq_t, eq_f, ez_t, ez_f, lz_t, lz_f, gz_t, gz_f, nz_t, nz_f, pz_t, pz_f, lgc_gt, lgc_lt, lgc_ge, lgc_le, lgc_eq, Lt_t, Lt_f, Le_t, Le_f, Eq_t, Eq_f, dv_j, not_true_eq_false, not_false_eq_true, Int.reduceEq, Int.reduceAdd, Int.reduceSub, Int.reduceMul, Int.reduceNeg, Ez_t, Ez_f, dv_L, false_and, true_and, and_true, and_false]
        exact hi
      have hx := m_dropSq G (d + 2) V C op (st M2 218 2 (skp g k e + 1)) l1 hA.2 (fun x hx => (hV x hx).2) (by omega) hQ3 q0 cont
      rw [Rm_aload_n (k := 0) rfl dX12_qGoesOnTest_0]
      simp (disch := omega) only [Rm_getfield fl_12_242 dX12_qGoesOnTest_1, Rn_if_ne (t := 76) rfl dX12_qGoesOnTest_4, Rm_aload_n (k := 0) rfl dX12_qGoesOnTest_7, Rm_inV0 (d := dX12_qGoesOnTest_8) (hy := mo_142) (h13 := rfl) ml_12_254 rfl, Rn_bipush (v := jI (93)) rfl dX12_qGoesOnTest_11, Rn_icmp_ne (t := 76) rfl dX12_qGoesOnTest_13, Rm_aload_n (k := 0) rfl dX12_qGoesOnTest_16, Rm_inV0 (d := dX12_qGoesOnTest_17) (hy := mo_253) (h13 := rfl) ml_12_655 rfl, Rn_if_eq (t := 76) rfl dX12_qGoesOnTest_20, Rm_aload_n (k := 0) rfl dX12_qGoesOnTest_23, Rn_dup_int dX12_qGoesOnTest_24, Rn_dup_ref dX12_qGoesOnTest_24, Rm_getfield fl_12_248 dX12_qGoesOnTest_25, Rn_iconst (v := jI (1)) rfl dX12_qGoesOnTest_28, Rn_iadd dX12_qGoesOnTest_29, Rm_putfieldI (ini := false) fl_12_248 rfl rfl dX12_qGoesOnTest_30, gs12_2 k218, gs12_5 k218, io12 k218, ps12_2 k218, io12 k218, q0, y5, e2, p93, eh, f3, qI_s, qJ_s, qR_s, qV_s, qX_s, qN_s, qW_s, qF_s, qC_s, Option.bind_some, Option.bind_none, Nat.reduceAdd, Nat.reduceBEq, Nat.reduceEqDiff, lk_nil, lk_cons, lk_pt1, lk_pt2i, isJ_i, isJ_r, isJ_l, gI_i, gJ_i, gR_i, Bool.false_eq_true, if_true, if_false, ite_true, ite_false, ↓reduceIte, len4_0, len4_1, len4_2, len4_3, len4_4, Option.toList_some, Option.toList_none, List.cons_append, List.nil_append, va_rf_s, up_hp, ofI_j, jI_add, jI_sub, jI_mul, jI_neg, jL_add, jL_sub, jL_mul, jI_jL, jL_jI, nar_i, nar_zj, lt_t, lt_f, le_t, le_f, eq_t, eq_f, ez_t, ez_f, lz_t, lz_f, gz_t, gz_f, nz_t, nz_f, pz_t, pz_f, lgc_gt, lgc_lt, lgc_ge, lgc_le, lgc_eq, Lt_t, Lt_f, Le_t, Le_f, Eq_t, Eq_f, dv_j, not_true_eq_false, not_false_eq_true, Int.reduceEq, Int.reduceAdd, Int.reduceSub, Int.reduceMul, Int.reduceNeg, Ez_t, Ez_f, dv_L, false_and, true_and, and_true, and_false]
      exact hx
    · rw [if_neg hA] at htp
      have hgo : ∀ T : Option Rs → Prop, T (Rn (X (d + 4)) 12 (some .boolean) false 1 cX12_qGoesOnTest (76, l1, [], (n, z, hp H M2))) → T (Rn (X (d + 4)) 12 (some .boolean) false 1 cX12_qGoesOnTest (0, l1, [], (n, z, hp H M1))) := by
        intro T hT
        rw [Rm_aload_n (k := 0) rfl dX12_qGoesOnTest_0]
        by_cases p93 : pkV g k e = 93
        · have hs := i93.mp p93
          have eh := ehs M2 hQ2
          rw [if_neg (fun h => hA ⟨hs, h⟩)] at eh
          simp (disch := omega) only [Rm_getfield fl_12_242 dX12_qGoesOnTest_1, Rn_if_ne (t := 76) rfl dX12_qGoesOnTest_4, Rm_aload_n (k := 0) rfl dX12_qGoesOnTest_7, Rm_inV0 (d := dX12_qGoesOnTest_8) (hy := mo_142) (h13 := rfl) ml_12_254 rfl, Rn_bipush (v := jI (93)) rfl dX12_qGoesOnTest_11, Rn_icmp_ne (t := 76) rfl dX12_qGoesOnTest_13, Rm_aload_n (k := 0) rfl dX12_qGoesOnTest_16, Rm_inV0 (d := dX12_qGoesOnTest_17) (hy := mo_253) (h13 := rfl) ml_12_655 rfl, Rn_if_eq (t := 76) rfl dX12_qGoesOnTest_20, gs12_5 k218, io12 k218, io12 k218, q0, y5, e2, p93, eh, qI_s, qJ_s, qR_s, qV_s, qX_s, qN_s, qW_s, qF_s, qC_s, Option.bind_some, Option.bind_none, Nat.reduceAdd, Nat.reduceBEq, Nat.reduceEqDiff, lk_nil, lk_cons, lk_pt1, lk_pt2i, isJ_i, isJ_r, isJ_l, gI_i, gJ_i, gR_i, Bool.false_eq_true, if_true, if_false, ite_true, ite_false, ↓reduceIte, len4_0, len4_1, len4_2, len4_3, len4_4, Option.toList_some, Option.toList_none, List.cons_append, List.nil_append, va_rf_s, up_hp, ofI_j, jI_add, jI_sub, jI_mul, jI_neg, jL_add, jL_sub, jL_mul, jI_jL, jL_jI, nar_i, nar_zj, lt_t, lt_f, le_t, le_f, eq_t, eq_f, ez_t, ez_f, lz_t, lz_f, gz_t, gz_f, nz_t, nz_f, pz_t, pz_f, lgc_gt, lgc_lt, lgc_ge, lgc_le, lgc_eq, Lt_t, Lt_f, Le_t, Le_f, Eq_t, Eq_f, dv_j, not_true_eq_false, not_false_eq_true, Int.reduceEq, Int.reduceAdd, Int.reduceSub, Int.reduceMul, Int.reduceNeg, Ez_t, Ez_f, dv_L, false_and, true_and, and_true, and_false]
          exact hT
        · simp (disch := omega) only [Rm_getfield fl_12_242 dX12_qGoesOnTest_1, Rn_if_ne (t := 76) rfl dX12_qGoesOnTest_4, Rm_aload_n (k := 0) rfl dX12_qGoesOnTest_7, Rm_inV0 (d := dX12_qGoesOnTest_8) (hy := mo_142) (h13 := rfl) ml_12_254 rfl, Rn_bipush (v := jI (93)) rfl dX12_qGoesOnTest_11, Rn_icmp_ne (t := 76) rfl dX12_qGoesOnTest_13, Rm_aload_n (k := 0) rfl dX12_qGoesOnTest_16, Rm_inV0 (d := dX12_qGoesOnTest_17) (hy := mo_253) (h13 := rfl) ml_12_655 rfl, Rn_if_eq (t := 76) rfl dX12_qGoesOnTest_20, gs12_5 k218, io12 k218, io12 k218, q0, y5, e2, qI_s, qJ_s, qR_s, qV_s, qX_s, qN_s, qW_s, qF_s, qC_s, Option.bind_some, Option.bind_none, Nat.reduceAdd, Nat.reduceBEq, Nat.reduceEqDiff, lk_nil, lk_cons, lk_pt1, lk_pt2i, isJ_i, isJ_r, isJ_l, gI_i, gJ_i, gR_i, Bool.false_eq_true, if_true, if_false, ite_true, ite_false, ↓reduceIte, len4_0, len4_1, len4_2, len4_3, len4_4, Option.toList_some, Option.toList_none, List.cons_append, List.nil_append, va_rf_s, up_hp, ofI_j, jI_add, jI_sub, jI_mul, jI_neg, jL_add, jL_sub, jL_mul, jI_jL, jL_jI, nar_i, nar_zj, lt_t, lt_f, le_t, le_f, eq_t, eq_f, ez_t, ez_f, lz_t, lz_f, gz_t, gz_f, nz_t, nz_f, pz_t, pz_f, lgc_gt, lgc_lt, lgc_ge, lgc_le, lgc_eq, Lt_t, Lt_f, Le_t, Le_f, Eq_t, Eq_f, dv_j, not_true_eq_false, not_false_eq_true, Int.reduceEq, Int.reduceAdd, Int.reduceSub, Int.reduceMul, Int.reduceNeg, Ez_t, Ez_f, dv_L, false_and, true_and, and_true, and_false]
          exact hT
      refine hgo G ?_
      clear hgo
      obtain ⟨v3, M3, e3, K3, h3⟩ := m_takes (n := n) (z := z) (H := H) (c := 273) (w := 26) hb hk he hP2 hWK2 (by decide) (d + 1)
      rw [Rm_aload_n (k := 0) rfl dX12_qGoesOnTest_76]
      rcases h3 with ⟨rfl, h3, hP3⟩ | ⟨rfl, h3, hP3, y23⟩
      · have h3' : isWd g k e nb 26 := h3
        have hn := nx_step (g := g) he (by have := Wd_K h3; omega)
        rw [if_pos h3'] at htp
        have hx := m_dropAn G (d + 2) V C op M3 l1 (fun x hx => (hV x hx).2) (by omega) (QS_T hQ2 K3) q0 (fun M' h => by
          obtain ⟨h1, h2, h3⟩ := h
          exact hG 1 M' ⟨KB_trans KB2 (KB_trans (KB_T K3) h2), Or.inl ⟨rfl, a2, _, by omega, rfl, htp, CT_sign isAn hci hn.1 hn.2 (Or.inl rfl), PQ_B hP3 (h2.1 219 (by omega)) (fun i hi => h3 i (by omega)), h1, WK_B (WK_T hWK2 K3) h2⟩⟩)
        simp (disch := omega) only [Rm_aload_n (k := 0) rfl dX12_qGoesOnTest_77, Rm_getfield fl_12_182 dX12_qGoesOnTest_78, Rm_inV1 (d := dX12_qGoesOnTest_81) (hy := mo_144) (h13 := rfl) ml_12_269 rfl, Rn_if_eq (t := 126) rfl dX12_qGoesOnTest_84, gs12_76 k218, rdC k273 l273, alC k273 l273, io12 k218, io12 k218, q0, e3, qI_s, qJ_s, qR_s, qV_s, qX_s, qN_s, qW_s, qF_s, qC_s, Option.bind_some, Option.bind_none, Nat.reduceAdd, Nat.reduceBEq, Nat.reduceEqDiff, lk_nil, lk_cons, lk_pt1, lk_pt2i, isJ_i, isJ_r, isJ_l, gI_i, gJ_i, gR_i, Bool.false_eq_true, if_true, if_false, ite_true, ite_false, ↓reduceIte, len4_0, len4_1, len4_2, len4_3, len4_4, Option.toList_some, Option.toList_none, List.cons_append, List.nil_append, va_rf_s, up_hp, ofI_j, jI_add, jI_sub, jI_mul, jI_neg, jL_add, jL_sub, jL_mul, jI_jL, jL_jI, nar_i, nar_zj, lt_t, lt_f, le_t, le_f, eq_t, eq_f, ez_t, ez_f, lz_t, lz_f, gz_t, gz_f, nz_t, nz_f, pz_t, pz_f, lgc_gt, lgc_lt, lgc_ge, lgc_le, lgc_eq, Lt_t, Lt_f, Le_t, Le_f, Eq_t, Eq_f, dv_j, not_true_eq_false, not_false_eq_true, Int.reduceEq, Int.reduceAdd, Int.reduceSub, Int.reduceMul, Int.reduceNeg, Ez_t, Ez_f, dv_L, false_and, true_and, and_true, and_false]
        exact hx
      · have h3' : ¬ isWd g k e nb 26 := h3
        rw [if_neg h3'] at htp
        have hWK3 := WK_T hWK2 K3
        obtain ⟨v4, M4, e4, K4, h4⟩ := m_takes (n := n) (z := z) (H := H) (c := 274) (w := 25) hb hk he hP3 hWK3 (by decide) (d + 1)
        have KB4 := KB_trans KB2 (KB_T (KT_trans K3 K4))
        have hQ4 := QS_T hQ2 (KT_trans K3 K4)
        rcases h4 with ⟨rfl, h4, hP4⟩ | ⟨rfl, h4, hP4, y24⟩
        · have h4' : isWd g k e nb 25 := h4
          have hn := nx_step (g := g) he (by have := Wd_K h4; omega)
          rw [if_pos h4'] at htp
          have hx := m_dropAO G (d + 2) V C op M4 l1 (fun x hx => (hV x hx).2) (by omega) hQ4 q0 (fun M' h => by
            obtain ⟨h1, h2, h3⟩ := h
            exact hG 1 M' ⟨KB_trans KB4 h2, Or.inl ⟨rfl, a2, _, by omega, rfl, htp, CT_sign isAO hci hn.1 hn.2 (Or.inr rfl), PQ_B hP4 (h2.1 219 (by omega)) (fun i hi => h3 i (by omega)), h1, WK_B (WK_T hWK3 K4) h2⟩⟩)
          simp (disch := omega) only [Rm_aload_n (k := 0) rfl dX12_qGoesOnTest_77, Rm_getfield fl_12_182 dX12_qGoesOnTest_78, Rm_inV1 (d := dX12_qGoesOnTest_81) (hy := mo_144) (h13 := rfl) ml_12_269 rfl, Rn_if_eq (t := 126) rfl dX12_qGoesOnTest_84, gs12_76 k218, rdC k273 l273, alC k273 l273, io12 k218, Rm_aload_n (k := 0) rfl dX12_qGoesOnTest_126, Rm_aload_n (k := 0) rfl dX12_qGoesOnTest_127, Rm_getfield fl_12_185 dX12_qGoesOnTest_128, Rm_inV1 (d := dX12_qGoesOnTest_131) (hy := mo_144) (h13 := rfl) ml_12_269 rfl, Rn_if_eq (t := 185) rfl dX12_qGoesOnTest_134, gs12_77 k218, rdC k274 l274, alC k274 l274, io12 k218, io12 k218, q0, e3, e4, qI_s, qJ_s, qR_s, qV_s, qX_s, qN_s, qW_s, qF_s, qC_s, Option.bind_some, Option.bind_none, Nat.reduceAdd, Nat.reduceBEq, Nat.reduceEqDiff, lk_nil, lk_cons, lk_pt1, lk_pt2i, isJ_i, isJ_r, isJ_l, gI_i, gJ_i, gR_i, Bool.false_eq_true, if_true, if_false, ite_true, ite_false, ↓reduceIte, len4_0, len4_1, len4_2, len4_3, len4_4, Option.toList_some, Option.toList_none, List.cons_append, List.nil_append, va_rf_s, up_hp, ofI_j, jI_add, jI_sub, jI_mul, jI_neg, jL_add, jL_sub, jL_mul, jI_jL, jL_jI, nar_i, nar_zj, lt_t, lt_f, le_t, le_f, eq_t, eq_f, ez_t, ez_f, lz_t, lz_f, gz_t, gz_f, nz_t, nz_f, pz_t, pz_f, lgc_gt, lgc_lt, lgc_ge, lgc_le, lgc_eq, Lt_t, Lt_f, Le_t, Le_f, Eq_t, Eq_f, dv_j, not_true_eq_false, not_false_eq_true, Int.reduceEq, Int.reduceAdd, Int.reduceSub, Int.reduceMul, Int.reduceNeg, Ez_t, Ez_f, dv_L, false_and, true_and, and_true, and_false]
          exact hx
        · have h4' : ¬ isWd g k e nb 25 := h4
          rw [if_neg h4'] at htp
          have y54 : M4 218 5 = 0 := hP4.2.2.2.2.1
          have eh := ehs M4 hQ4
          by_cases h25 : 25 ∈ V
          · rw [if_pos h25] at htp eh
            have hte := TSt_term htp (by show 3 ≤ 3; omega)
            have ef := m_fail0 (n := n) (z := z) (H := H) (M := M4) (a := 1) (p := skp g k e) y54 (d + 3)
            have Kf : KT M4 (st (st M4 218 5 1) 218 6 (skp g k e)) := KT_st (KT_st (KT_refl M4) (by omega)) (by omega)
            have r := hG 0 _ ⟨KB_trans KB4 (KB_T Kf), Or.inr (Or.inr ⟨rfl, 1, skp g k e, hte.symm, ⟨by omega, by omega⟩, ⟨by rw [st_self, su_ne _ _ (by omega), st_self, su_self]; rfl, by rw [st_self, su_self]⟩, QB_Q (QS_T hQ4 Kf) (by omega)⟩)⟩
            simp (disch := omega) only [Rm_aload_n (k := 0) rfl dX12_qGoesOnTest_77, Rm_getfield fl_12_182 dX12_qGoesOnTest_78, Rm_inV1 (d := dX12_qGoesOnTest_81) (hy := mo_144) (h13 := rfl) ml_12_269 rfl, Rn_if_eq (t := 126) rfl dX12_qGoesOnTest_84, gs12_76 k218, rdC k273 l273, alC k273 l273, io12 k218, Rm_aload_n (k := 0) rfl dX12_qGoesOnTest_126, Rm_aload_n (k := 0) rfl dX12_qGoesOnTest_127, Rm_getfield fl_12_185 dX12_qGoesOnTest_128, Rm_inV1 (d := dX12_qGoesOnTest_131) (hy := mo_144) (h13 := rfl) ml_12_269 rfl, Rn_if_eq (t := 185) rfl dX12_qGoesOnTest_134, gs12_77 k218, rdC k274 l274, alC k274 l274, io12 k218, Rm_aload_n (k := 0) rfl dX12_qGoesOnTest_185, Rm_getfield fl_12_242 dX12_qGoesOnTest_186, Rn_if_ne (t := 208) rfl dX12_qGoesOnTest_189, Rm_aload_n (k := 0) rfl dX12_qGoesOnTest_192, Rm_inV0 (d := dX12_qGoesOnTest_193) (hy := mo_253) (h13 := rfl) ml_12_655 rfl, Rn_if_eq (t := 208) rfl dX12_qGoesOnTest_196, Rm_aload_n (k := 0) rfl dX12_qGoesOnTest_199, Rn_iconst (v := jI (1)) rfl dX12_qGoesOnTest_200, Rm_aload_n (k := 0) rfl dX12_qGoesOnTest_201, Rm_getfield fl_12_248 dX12_qGoesOnTest_202, Rm_inV2 (d := dX12_qGoesOnTest_205) (hy := mo_139) (h13 := rfl) ml_12_272 rfl, Rn_iconst (v := jI (0)) rfl dX12_qGoesOnTest_208, Rn_ireturn (ty := .boolean) rfl dX12_qGoesOnTest_209, gs12_2 k218, gs12_5 k218, io12 k218, io12 k218, q0, e3, e4, y54, eh, y24, ef, qI_s, qJ_s, qR_s, qV_s, qX_s, qN_s, qW_s, qF_s, qC_s, Option.bind_some, Option.bind_none, Nat.reduceAdd, Nat.reduceBEq, Nat.reduceEqDiff, lk_nil, lk_cons, lk_pt1, lk_pt2i, isJ_i, isJ_r, isJ_l, gI_i, gJ_i, gR_i, Bool.false_eq_true, if_true, if_false, ite_true, ite_false, ↓reduceIte, len4_0, len4_1, len4_2, len4_3, len4_4, Option.toList_some, Option.toList_none, List.cons_append, List.nil_append, va_rf_s, up_hp, ofI_j, jI_add, jI_sub, jI_mul, jI_neg, jL_add, jL_sub, jL_mul, jI_jL, jL_jI, nar_i, nar_zj, lt_t, lt_f, le_t, le_f, eq_t, eq_f, ez_t, ez_f, lz_t, lz_f, gz_t, gz_f, nz_t, nz_f, pz_t, pz_f, lgc_gt, lgc_lt, lgc_ge, lgc_le, lgc_eq, Lt_t, Lt_f, Le_t, Le_f, Eq_t, Eq_f, dv_j, not_true_eq_false, not_false_eq_true, Int.reduceEq, Int.reduceAdd, Int.reduceSub, Int.reduceMul, Int.reduceNeg, Ez_t, Ez_f, dv_L, false_and, true_and, and_true, and_false]
            exact r
          · rw [if_neg h25] at htp eh
            have hte := TSt_term htp (by show 3 ≤ 4; omega)
            have r := hG 0 _ ⟨KB4, Or.inr (Or.inl ⟨rfl, by rw [← hte], by rw [← hte]; exact hci, by rw [← hte]; exact ⟨hP4, hQ4, WK_T hWK3 K4⟩⟩)⟩
            simp (disch := omega) only [Rm_aload_n (k := 0) rfl dX12_qGoesOnTest_77, Rm_getfield fl_12_182 dX12_qGoesOnTest_78, Rm_inV1 (d := dX12_qGoesOnTest_81) (hy := mo_144) (h13 := rfl) ml_12_269 rfl, Rn_if_eq (t := 126) rfl dX12_qGoesOnTest_84, gs12_76 k218, rdC k273 l273, alC k273 l273, io12 k218, Rm_aload_n (k := 0) rfl dX12_qGoesOnTest_126, Rm_aload_n (k := 0) rfl dX12_qGoesOnTest_127, Rm_getfield fl_12_185 dX12_qGoesOnTest_128, Rm_inV1 (d := dX12_qGoesOnTest_131) (hy := mo_144) (h13 := rfl) ml_12_269 rfl, Rn_if_eq (t := 185) rfl dX12_qGoesOnTest_134, gs12_77 k218, rdC k274 l274, alC k274 l274, io12 k218, Rm_aload_n (k := 0) rfl dX12_qGoesOnTest_185, Rm_getfield fl_12_242 dX12_qGoesOnTest_186, Rn_if_ne (t := 208) rfl dX12_qGoesOnTest_189, Rm_aload_n (k := 0) rfl dX12_qGoesOnTest_192, Rm_inV0 (d := dX12_qGoesOnTest_193) (hy := mo_253) (h13 := rfl) ml_12_655 rfl, Rn_if_eq (t := 208) rfl dX12_qGoesOnTest_196, Rm_aload_n (k := 0) rfl dX12_qGoesOnTest_199, Rn_iconst (v := jI (1)) rfl dX12_qGoesOnTest_200, Rm_aload_n (k := 0) rfl dX12_qGoesOnTest_201, Rm_getfield fl_12_248 dX12_qGoesOnTest_202, Rm_inV2 (d := dX12_qGoesOnTest_205) (hy := mo_139) (h13 := rfl) ml_12_272 rfl, Rn_iconst (v := jI (0)) rfl dX12_qGoesOnTest_208, Rn_ireturn (ty := .boolean) rfl dX12_qGoesOnTest_209, gs12_2 k218, gs12_5 k218, io12 k218, io12 k218, q0, e3, e4, y54, eh, qI_s, qJ_s, qR_s, qV_s, qX_s, qN_s, qW_s, qF_s, qC_s, Option.bind_some, Option.bind_none, Nat.reduceAdd, Nat.reduceBEq, Nat.reduceEqDiff, lk_nil, lk_cons, lk_pt1, lk_pt2i, isJ_i, isJ_r, isJ_l, gI_i, gJ_i, gR_i, Bool.false_eq_true, if_true, if_false, ite_true, ite_false, ↓reduceIte, len4_0, len4_1, len4_2, len4_3, len4_4, Option.toList_some, Option.toList_none, List.cons_append, List.nil_append, va_rf_s, up_hp, ofI_j, jI_add, jI_sub, jI_mul, jI_neg, jL_add, jL_sub, jL_mul, jI_jL, jL_jI, nar_i, nar_zj, lt_t, lt_f, le_t, le_f, eq_t, eq_f, ez_t, ez_f, lz_t, lz_f, gz_t, gz_f, nz_t, nz_f, pz_t, pz_f, lgc_gt, lgc_lt, lgc_ge, lgc_le, lgc_eq, Lt_t, Lt_f, Le_t, Le_f, Eq_t, Eq_f, dv_j, not_true_eq_false, not_false_eq_true, Int.reduceEq, Int.reduceAdd, Int.reduceSub, Int.reduceMul, Int.reduceNeg, Ez_t, Ez_f, dv_L, false_and, true_and, and_true, and_false]
            exact r
  rw [Xe_X12_qGoesOnTest]
  exact key _ e op a nb V C M _ rfl (Nat.le_refl _) hp0 hc hM (KB_refl M) (by simp [Option.bind_some, Option.bind_none, Nat.reduceAdd, Nat.reduceBEq, Nat.reduceEqDiff, lk_nil, lk_cons, lk_pt1, lk_pt2, lk_pt2b, isJ_i, isJ_r, isJ_l, gI_i, gJ_i, gR_i, Bool.false_eq_true, if_true, if_false, ite_true, ite_false, reduceIte, len4_0, len4_1, len4_2, len4_3, len4_4, Option.toList_some, Option.toList_none, List.cons_append, List.nil_append, gf_o, isO_o, pf_o, List.length_cons, List.length_nil, List.getElem?_cons_zero, List.getElem?_cons_succ, List.set_cons_zero, List.set_cons_succ, va_rf_s, up_self, rdi_a, rdi_5, rdi_0, rdi_4, wri_a, rdl_a, wrl_a, rdr_a, wrr_a, aln_0, aln_1, aln_3, aln_4, aln_5, ofI_1, ofI_m1])
end

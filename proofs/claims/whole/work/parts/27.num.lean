/-! numbers: jI, jL of whole numbers -/
def jI (x : Int) : Int32 := Int32.ofInt x
def jL (x : Int) : Int64 := Int64.ofInt x
theorem fa_lt (a b : Int32) : a < b ↔ a.toInt < b.toInt := Int32.lt_iff_toInt_lt
theorem fa_le (a b : Int32) : a ≤ b ↔ a.toInt ≤ b.toInt := Int32.le_iff_toInt_le
theorem fa_eq (a b : Int32) : a = b ↔ a.toInt = b.toInt := Int32.toInt_inj.symm
theorem fa_lt64 (a b : Int64) : a < b ↔ a.toInt < b.toInt := Int64.lt_iff_toInt_lt
theorem fa_le64 (a b : Int64) : a ≤ b ↔ a.toInt ≤ b.toInt := Int64.le_iff_toInt_le
theorem fa_eq64 (a b : Int64) : a = b ↔ a.toInt = b.toInt := Int64.toInt_inj.symm
theorem jI_toInt {x : Int} (h : -2147483648 ≤ x ∧ x < 2147483648) : (jI x).toInt = x := Int32.toInt_ofInt_of_le h.1 h.2
theorem jL_toInt {x : Int} (h : -9223372036854775808 ≤ x ∧ x < 9223372036854775808) : (jL x).toInt = x := Int64.toInt_ofInt_of_le h.1 h.2
theorem jI_nI (n : Nat) : nI n = jI (n : Int) := rfl
theorem jN (n : Nat) : jI (n : Int) = nI n := rfl
theorem jLN (n : Nat) : jL (n : Int) = lN n := rfl
theorem jL_lN (n : Nat) : lN n = jL (n : Int) := rfl
theorem jI_add (a b : Int) : jI a + jI b = jI (a + b) := (Int32.ofInt_add a b).symm
theorem jI_mul (a b : Int) : jI a * jI b = jI (a * b) := (Int32.ofInt_mul a b).symm
theorem jI_neg (a : Int) : -jI a = jI (-a) := (Int32.ofInt_neg a).symm
theorem jI_sub (a b : Int) : jI a - jI b = jI (a - b) := (by simp [jI, Int.sub_eq_add_neg, Int32.sub_eq_add_neg])
theorem jL_add (a b : Int) : jL a + jL b = jL (a + b) := (Int64.ofInt_add a b).symm
theorem jL_mul (a b : Int) : jL a * jL b = jL (a * b) := (Int64.ofInt_mul a b).symm
theorem jL_sub (a b : Int) : jL a - jL b = jL (a - b) := (by simp [jL, Int.sub_eq_add_neg, Int64.sub_eq_add_neg])
theorem jI_lt {a b : Int} (ha : -2147483648 ≤ a ∧ a < 2147483648) (hb : -2147483648 ≤ b ∧ b < 2147483648) : jI a < jI b ↔ a < b := by
  rw [fa_lt, jI_toInt ha, jI_toInt hb]
theorem jI_le {a b : Int} (ha : -2147483648 ≤ a ∧ a < 2147483648) (hb : -2147483648 ≤ b ∧ b < 2147483648) : jI a ≤ jI b ↔ a ≤ b := by
  rw [fa_le, jI_toInt ha, jI_toInt hb]
theorem jI_eq {a b : Int} (ha : -2147483648 ≤ a ∧ a < 2147483648) (hb : -2147483648 ≤ b ∧ b < 2147483648) : jI a = jI b ↔ a = b := by
  rw [fa_eq, jI_toInt ha, jI_toInt hb]
theorem jL_lt {a b : Int} (ha : -9223372036854775808 ≤ a ∧ a < 9223372036854775808) (hb : -9223372036854775808 ≤ b ∧ b < 9223372036854775808) : jL a < jL b ↔ a < b := by
  rw [fa_lt64, jL_toInt ha, jL_toInt hb]
theorem jL_le {a b : Int} (ha : -9223372036854775808 ≤ a ∧ a < 9223372036854775808) (hb : -9223372036854775808 ≤ b ∧ b < 9223372036854775808) : jL a ≤ jL b ↔ a ≤ b := by
  rw [fa_le64, jL_toInt ha, jL_toInt hb]
theorem jL_eq {a b : Int} (ha : -9223372036854775808 ≤ a ∧ a < 9223372036854775808) (hb : -9223372036854775808 ≤ b ∧ b < 9223372036854775808) : jL a = jL b ↔ a = b := by
  rw [fa_eq64, jL_toInt ha, jL_toInt hb]
theorem jI_0 : jI 0 = 0 := rfl
theorem jI_1 : jI 1 = 1 := rfl
theorem jI_m1 : jI (-1) = -1 := rfl
theorem jL_0 : jL 0 = 0 := rfl
theorem jL_1 : jL 1 = 1 := rfl
theorem jI_jL {x : Int} (h : -2147483648 ≤ x ∧ x < 2147483648) : (jI x).toInt64 = jL x := by
  apply Int64.toInt_inj.mp
  rw [Int32.toInt_toInt64, jI_toInt h, jL_toInt (by omega)]
theorem jL_jI (x : Int) : (jL x).toInt32 = jI x := Int32.toInt_inj.mp (by
  unfold jL jI
  rw [Int64.toInt32_ofInt])
theorem jI_div {a b : Int} (ha : -2147483648 < a ∧ a < 2147483648) (hb : -2147483648 ≤ b ∧ b < 2147483648) : jI a / jI b = jI (a.tdiv b) := by
  have e : (jI a / jI b).toInt = a.tdiv b := by
    rw [Int32.toInt_div_of_ne_left, jI_toInt (by omega), jI_toInt hb]
    intro e
    have := congrArg Int32.toInt e
    rw [jI_toInt (by omega)] at this
    have q : Int32.minValue.toInt = -2147483648 := rfl
    omega
  rw [← e]
  exact (Int32.ofInt_toInt _).symm
theorem jL_div {a b : Int} (ha : -9223372036854775808 < a ∧ a < 9223372036854775808) (hb : -9223372036854775808 ≤ b ∧ b < 9223372036854775808) : jL a / jL b = jL (a.tdiv b) := by
  have e : (jL a / jL b).toInt = a.tdiv b := by
    rw [Int64.toInt_div_of_ne_left, jL_toInt (by omega), jL_toInt hb]
    intro e
    have := congrArg Int64.toInt e
    rw [jL_toInt (by omega)] at this
    have q : Int64.minValue.toInt = -9223372036854775808 := rfl
    omega
  rw [← e]
  exact (Int64.ofInt_toInt _).symm
theorem lgc_gt (a b : Int64) : 0 < lg_cmp a b ↔ b < a := by
  unfold lg_cmp
  by_cases h : a > b
  · simp [h]
  · by_cases h2 : a = b
    · simp [h2]
    · rw [if_neg h, if_neg h2]
      constructor
      · intro q; exact absurd q (by decide)
      · intro q; exact absurd q h
theorem lgc_lt (a b : Int64) : lg_cmp a b < 0 ↔ a < b := by
  unfold lg_cmp
  by_cases h : a > b
  · rw [if_pos h]
    constructor
    · intro q; exact absurd q (by decide)
    · intro q
      have q1 := (fa_lt64 _ _).mp q
      have q2 := (fa_lt64 _ _).mp h
      omega
  · by_cases h2 : a = b
    · subst h2
      rw [if_neg h, if_pos rfl]
      constructor
      · intro q; exact absurd q (by decide)
      · intro q; exact absurd q h
    · rw [if_neg h, if_neg h2]
      refine ⟨fun _ => ?_, fun _ => by decide⟩
      rw [fa_lt64]
      have q1 : ¬ b.toInt < a.toInt := fun z => h ((fa_lt64 _ _).mpr z)
      have q2 : ¬ a.toInt = b.toInt := fun z => h2 ((fa_eq64 _ _).mpr z)
      omega
theorem lgc_ge (a b : Int64) : 0 ≤ lg_cmp a b ↔ b ≤ a := lg_cmp_ge a b
theorem lgc_le (a b : Int64) : lg_cmp a b ≤ 0 ↔ a ≤ b := by
  have := lgc_gt a b
  rw [fa_lt, fa_lt64] at this
  rw [fa_le, fa_le64]
  omega
theorem lgc_eq (a b : Int64) : lg_cmp a b = 0 ↔ a = b := by
  have h1 := lgc_gt a b
  have h2 := lgc_lt a b
  rw [fa_lt, fa_lt64] at h1 h2
  rw [fa_eq, fa_eq64]
  have : (0 : Int32).toInt = 0 := rfl
  omega
theorem xor_neg (x y : Int32) : x ^^^ y < 0 ↔ ¬ (x < 0 ↔ y < 0) := by
  have h : ∀ z : Int32, z < 0 ↔ z.toBitVec.msb = true := fun z => by
    have e : z.toBitVec.toInt = z.toInt := rfl
    rw [fa_lt, BitVec.msb_eq_toInt, e]
    simp
  rw [h, h, h, Int32.toBitVec_xor, BitVec.msb_xor]
  cases x.toBitVec.msb <;> cases y.toBitVec.msb <;> simp
theorem nar_i (v : Int32) : narrow .int (.int v) = .int v := vp_nar_int v
theorem nar_z0 : narrow .boolean (.int 0) = .int 0 := rfl
theorem nar_z1 : narrow .boolean (.int 1) = .int 1 := rfl
/-! the JDK's own, of numbers -/
theorem s_min (d : Nat) (h : Hp) (a b : Int32) : X (d + 1) 280 [.int a, .int b] h = some (some (.int (if b < a then b else a)), h) := by
  rw [Xe_J9_min_7cf53]
  by_cases q : b < a <;> simp [Rn_iload_n (k := 0) rfl dJ9_min_7cf53_0, Rn_iload_n (k := 1) rfl dJ9_min_7cf53_1, Rn_icmp_gt (t := 9) rfl dJ9_min_7cf53_2, Rn_iload_n (k := 0) rfl dJ9_min_7cf53_5, Rn_goto (t := 10) rfl dJ9_min_7cf53_6, Rn_iload_n (k := 1) rfl dJ9_min_7cf53_9, Rn_ireturn (ty := .int) rfl dJ9_min_7cf53_10, Option.bind_some, Option.bind_none, Nat.reduceAdd, Nat.reduceBEq, Nat.reduceEqDiff, lk_nil, lk_cons, lk_pt1, lk_pt2, lk_pt2b, isJ_i, isJ_r, isJ_l, gI_i, gJ_i, gR_i, Bool.false_eq_true, if_true, if_false, ite_true, ite_false, reduceIte, len4_0, len4_1, len4_2, len4_3, len4_4, Option.toList_some, Option.toList_none, List.cons_append, List.nil_append, gf_o, isO_o, pf_o, List.length_cons, List.length_nil, List.getElem?_cons_zero, List.getElem?_cons_succ, List.set_cons_zero, List.set_cons_succ, va_rf_s, up_self, rdi_a, rdi_5, rdi_0, rdi_4, wri_a, rdl_a, wrl_a, rdr_a, wrr_a, aln_0, aln_1, aln_3, aln_4, aln_5, ofI_1, ofI_m1, nar_i, q]
theorem s_max (d : Nat) (h : Hp) (a b : Int32) : X (d + 1) 278 [.int a, .int b] h = some (some (.int (if a < b then b else a)), h) := by
  rw [Xe_J9_max_7cf53]
  by_cases q : a < b <;> simp [Rn_iload_n (k := 0) rfl dJ9_max_7cf53_0, Rn_iload_n (k := 1) rfl dJ9_max_7cf53_1, Rn_icmp_lt (t := 9) rfl dJ9_max_7cf53_2, Rn_iload_n (k := 0) rfl dJ9_max_7cf53_5, Rn_goto (t := 10) rfl dJ9_max_7cf53_6, Rn_iload_n (k := 1) rfl dJ9_max_7cf53_9, Rn_ireturn (ty := .int) rfl dJ9_max_7cf53_10, Option.bind_some, Option.bind_none, Nat.reduceAdd, Nat.reduceBEq, Nat.reduceEqDiff, lk_nil, lk_cons, lk_pt1, lk_pt2, lk_pt2b, isJ_i, isJ_r, isJ_l, gI_i, gJ_i, gR_i, Bool.false_eq_true, if_true, if_false, ite_true, ite_false, reduceIte, len4_0, len4_1, len4_2, len4_3, len4_4, Option.toList_some, Option.toList_none, List.cons_append, List.nil_append, gf_o, isO_o, pf_o, List.length_cons, List.length_nil, List.getElem?_cons_zero, List.getElem?_cons_succ, List.set_cons_zero, List.set_cons_succ, va_rf_s, up_self, rdi_a, rdi_5, rdi_0, rdi_4, wri_a, rdl_a, wrl_a, rdr_a, wrr_a, aln_0, aln_1, aln_3, aln_4, aln_5, ofI_1, ofI_m1, nar_i, q]
theorem s_abs (d : Nat) (h : Hp) (a : Int32) : X (d + 1) 277 [.int a] h = some (some (.int (if 0 ≤ a then a else -a)), h) := by
  rw [Xe_J9_abs_0f7a4]
  by_cases q : 0 ≤ a <;> simp [Rn_iload_n (k := 0) rfl dJ9_abs_0f7a4_0, Rn_if_ge (t := 9) rfl dJ9_abs_0f7a4_1, Rn_iload_n (k := 0) rfl dJ9_abs_0f7a4_4, Rn_ineg dJ9_abs_0f7a4_5, Rn_goto (t := 10) rfl dJ9_abs_0f7a4_6, Rn_iload_n (k := 0) rfl dJ9_abs_0f7a4_9, Rn_ireturn (ty := .int) rfl dJ9_abs_0f7a4_10, Option.bind_some, Option.bind_none, Nat.reduceAdd, Nat.reduceBEq, Nat.reduceEqDiff, lk_nil, lk_cons, lk_pt1, lk_pt2, lk_pt2b, isJ_i, isJ_r, isJ_l, gI_i, gJ_i, gR_i, Bool.false_eq_true, if_true, if_false, ite_true, ite_false, reduceIte, len4_0, len4_1, len4_2, len4_3, len4_4, Option.toList_some, Option.toList_none, List.cons_append, List.nil_append, gf_o, isO_o, pf_o, List.length_cons, List.length_nil, List.getElem?_cons_zero, List.getElem?_cons_succ, List.set_cons_zero, List.set_cons_succ, va_rf_s, up_self, rdi_a, rdi_5, rdi_0, rdi_4, wri_a, rdl_a, wrl_a, rdr_a, wrr_a, aln_0, aln_1, aln_3, aln_4, aln_5, ofI_1, ofI_m1, nar_i, q]
theorem s_minL (d : Nat) (h : Hp) (a b : Int64) : X (d + 1) 281 [.long a, .long b] h = some (some (.long (if b < a then b else a)), h) := by
  rw [Xe_J9_min_f86c9]
  by_cases q : b < a <;> simp [Rn_lload_n (k := 0) rfl dJ9_min_f86c9_0, Rn_lload_n (k := 2) rfl dJ9_min_f86c9_1, Rn_lcmp dJ9_min_f86c9_2, Rn_if_gt (t := 10) rfl dJ9_min_f86c9_3, Rn_lload_n (k := 0) rfl dJ9_min_f86c9_6, Rn_goto (t := 11) rfl dJ9_min_f86c9_7, Rn_lload_n (k := 2) rfl dJ9_min_f86c9_10, Rn_lreturn rfl dJ9_min_f86c9_11, Option.bind_some, Option.bind_none, Nat.reduceAdd, Nat.reduceBEq, Nat.reduceEqDiff, lk_nil, lk_cons, lk_pt1, lk_pt2, lk_pt2b, isJ_i, isJ_r, isJ_l, gI_i, gJ_i, gR_i, Bool.false_eq_true, if_true, if_false, ite_true, ite_false, reduceIte, len4_0, len4_1, len4_2, len4_3, len4_4, Option.toList_some, Option.toList_none, List.cons_append, List.nil_append, gf_o, isO_o, pf_o, List.length_cons, List.length_nil, List.getElem?_cons_zero, List.getElem?_cons_succ, List.set_cons_zero, List.set_cons_succ, va_rf_s, up_self, rdi_a, rdi_5, rdi_0, rdi_4, wri_a, rdl_a, wrl_a, rdr_a, wrr_a, aln_0, aln_1, aln_3, aln_4, aln_5, ofI_1, ofI_m1, lgc_gt, lgc_lt, lgc_le, lgc_ge, q]
theorem s_maxL (d : Nat) (h : Hp) (a b : Int64) : X (d + 1) 279 [.long a, .long b] h = some (some (.long (if a < b then b else a)), h) := by
  rw [Xe_J9_max_f86c9]
  by_cases q : a < b <;> simp [Rn_lload_n (k := 0) rfl dJ9_max_f86c9_0, Rn_lload_n (k := 2) rfl dJ9_max_f86c9_1, Rn_lcmp dJ9_max_f86c9_2, Rn_if_lt (t := 10) rfl dJ9_max_f86c9_3, Rn_lload_n (k := 0) rfl dJ9_max_f86c9_6, Rn_goto (t := 11) rfl dJ9_max_f86c9_7, Rn_lload_n (k := 2) rfl dJ9_max_f86c9_10, Rn_lreturn rfl dJ9_max_f86c9_11, Option.bind_some, Option.bind_none, Nat.reduceAdd, Nat.reduceBEq, Nat.reduceEqDiff, lk_nil, lk_cons, lk_pt1, lk_pt2, lk_pt2b, isJ_i, isJ_r, isJ_l, gI_i, gJ_i, gR_i, Bool.false_eq_true, if_true, if_false, ite_true, ite_false, reduceIte, len4_0, len4_1, len4_2, len4_3, len4_4, Option.toList_some, Option.toList_none, List.cons_append, List.nil_append, gf_o, isO_o, pf_o, List.length_cons, List.length_nil, List.getElem?_cons_zero, List.getElem?_cons_succ, List.set_cons_zero, List.set_cons_succ, va_rf_s, up_self, rdi_a, rdi_5, rdi_0, rdi_4, wri_a, rdl_a, wrl_a, rdr_a, wrr_a, aln_0, aln_1, aln_3, aln_4, aln_5, ofI_1, ofI_m1, lgc_gt, lgc_lt, lgc_le, lgc_ge, q]
theorem j_min (d : Nat) (h : Hp) {a b : Int} (ha : -2147483648 ≤ a ∧ a < 2147483648) (hb : -2147483648 ≤ b ∧ b < 2147483648) : X (d + 1) 280 [.int (jI a), .int (jI b)] h = some (some (.int (jI (min a b))), h) := by
  rw [s_min]
  by_cases q : b < a
  · rw [if_pos ((jI_lt hb ha).mpr q), show min a b = b by omega]
  · rw [if_neg (fun z => q ((jI_lt hb ha).mp z)), show min a b = a by omega]
theorem j_max (d : Nat) (h : Hp) {a b : Int} (ha : -2147483648 ≤ a ∧ a < 2147483648) (hb : -2147483648 ≤ b ∧ b < 2147483648) : X (d + 1) 278 [.int (jI a), .int (jI b)] h = some (some (.int (jI (max a b))), h) := by
  rw [s_max]
  by_cases q : a < b
  · rw [if_pos ((jI_lt ha hb).mpr q), show max a b = b by omega]
  · rw [if_neg (fun z => q ((jI_lt ha hb).mp z)), show max a b = a by omega]
theorem j_minL (d : Nat) (h : Hp) {a b : Int} (ha : -9223372036854775808 ≤ a ∧ a < 9223372036854775808) (hb : -9223372036854775808 ≤ b ∧ b < 9223372036854775808) : X (d + 1) 281 [.long (jL a), .long (jL b)] h = some (some (.long (jL (min a b))), h) := by
  rw [s_minL]
  by_cases q : b < a
  · rw [if_pos ((jL_lt hb ha).mpr q), show min a b = b by omega]
  · rw [if_neg (fun z => q ((jL_lt hb ha).mp z)), show min a b = a by omega]
theorem j_maxL (d : Nat) (h : Hp) {a b : Int} (ha : -9223372036854775808 ≤ a ∧ a < 9223372036854775808) (hb : -9223372036854775808 ≤ b ∧ b < 9223372036854775808) : X (d + 1) 279 [.long (jL a), .long (jL b)] h = some (some (.long (jL (max a b))), h) := by
  rw [s_maxL]
  by_cases q : a < b
  · rw [if_pos ((jL_lt ha hb).mpr q), show max a b = b by omega]
  · rw [if_neg (fun z => q ((jL_lt ha hb).mp z)), show max a b = a by omega]
theorem j_abs (d : Nat) (h : Hp) {a : Int} (ha : -2147483648 ≤ a ∧ a < 2147483648) : X (d + 1) 277 [.int (jI a)] h = some (some (.int (jI (a.natAbs : Int))), h) := by
  rw [s_abs, ← jI_0]
  by_cases q : 0 ≤ a
  · rw [if_pos ((jI_le (a := 0) (by omega) ha).mpr q), show (a.natAbs : Int) = a by omega]
  · rw [if_neg (fun z => q ((jI_le (a := 0) (by omega) ha).mp z)), jI_neg, show (a.natAbs : Int) = -a by omega]
theorem j_floorDiv (d : Nat) (h : Hp) {a b : Int} (ha : -1000000 ≤ a ∧ a ≤ 1000000) (hb : -1000000 ≤ b ∧ b ≤ 1000000) (h0 : b ≠ 0) : X (d + 1) 276 [.int (jI a), .int (jI b)] h = some (some (.int (jI (a.fdiv b))), h) := by
  have hn : ¬ jI b = 0 := fun e => h0 ((jI_eq (b := 0) (by omega) (by omega)).mp e)
  have e1 : jI a / jI b = jI (a.tdiv b) := jI_div (by omega) (by omega)
  have hq : -1000000 ≤ a.tdiv b ∧ a.tdiv b ≤ 1000000 := by
    have := Int.natAbs_tdiv_le_natAbs a b
    omega
  have e2 : jI (a.tdiv b) * jI b = jI a ↔ b ∣ a := by
    have hm := Int.tmod_add_tdiv_mul a b
    have hb2 : (a.tdiv b * b).natAbs ≤ a.natAbs := by
      rw [Int.natAbs_mul, Int.natAbs_tdiv]
      exact Nat.div_mul_le_self _ _
    rw [jI_mul, jI_eq (by omega) (by omega), Int.dvd_iff_tmod_eq_zero]
    omega
  have e3 : 0 ≤ jI a ^^^ jI b ↔ (a < 0 ↔ b < 0) := by
    have := xor_neg (jI a) (jI b)
    rw [← jI_0, jI_lt (b := 0) (by omega) (by omega), jI_lt (b := 0) (by omega) (by omega)] at this
    have q : 0 ≤ jI a ^^^ jI b ↔ ¬ (jI a ^^^ jI b < jI 0) := by
      rw [fa_le, fa_lt]
      exact Int.not_lt.symm
    rw [q, this, Decidable.not_not]
  have e4 := @Int.fdiv_eq_tdiv a b
  have sp : 0 ≤ b → b.sign = 1 := fun q => Int.sign_eq_one_of_pos (by omega)
  have sn : ¬ 0 ≤ b → b.sign = -1 := fun q => Int.sign_eq_neg_one_of_neg (by omega)
  rw [Xe_J9_floorDiv_7cf53]
  by_cases q1 : a < 0 ↔ b < 0
  · simp [Rn_iload_n (k := 0) rfl dJ9_floorDiv_7cf53_0, Rn_iload_n (k := 1) rfl dJ9_floorDiv_7cf53_1, Rn_idiv dJ9_floorDiv_7cf53_2, Rn_istore_n (k := 2) (nL := 3) rfl rfl dJ9_floorDiv_7cf53_3, Rn_iload_n (k := 0) rfl dJ9_floorDiv_7cf53_4, Rn_iload_n (k := 1) rfl dJ9_floorDiv_7cf53_5, Rn_ixor dJ9_floorDiv_7cf53_6, Rn_if_ge (t := 21) rfl dJ9_floorDiv_7cf53_7, Rn_iload_n (k := 2) rfl dJ9_floorDiv_7cf53_10, Rn_iload_n (k := 1) rfl dJ9_floorDiv_7cf53_11, Rn_imul dJ9_floorDiv_7cf53_12, Rn_iload_n (k := 0) rfl dJ9_floorDiv_7cf53_13, Rn_icmp_eq (t := 21) rfl dJ9_floorDiv_7cf53_14, Rn_iload_n (k := 2) rfl dJ9_floorDiv_7cf53_17, Rn_iconst (v := (1)) rfl dJ9_floorDiv_7cf53_18, Rn_isub dJ9_floorDiv_7cf53_19, Rn_ireturn (ty := .int) rfl dJ9_floorDiv_7cf53_20, Rn_iload_n (k := 2) rfl dJ9_floorDiv_7cf53_21, Rn_ireturn (ty := .int) rfl dJ9_floorDiv_7cf53_22, Option.bind_some, Option.bind_none, Nat.reduceAdd, Nat.reduceBEq, Nat.reduceEqDiff, lk_nil, lk_cons, lk_pt1, lk_pt2, lk_pt2b, isJ_i, isJ_r, isJ_l, gI_i, gJ_i, gR_i, Bool.false_eq_true, if_true, if_false, ite_true, ite_false, reduceIte, len4_0, len4_1, len4_2, len4_3, len4_4, Option.toList_some, Option.toList_none, List.cons_append, List.nil_append, gf_o, isO_o, pf_o, List.length_cons, List.length_nil, List.getElem?_cons_zero, List.getElem?_cons_succ, List.set_cons_zero, List.set_cons_succ, va_rf_s, up_self, rdi_a, rdi_5, rdi_0, rdi_4, wri_a, rdl_a, wrl_a, rdr_a, wrr_a, aln_0, aln_1, aln_3, aln_4, aln_5, ofI_1, ofI_m1, nar_i, hn, e1, e3.mpr q1]
    rw [e4]
    congr 1
    by_cases q2 : b ∣ a
    · simp [q2]
    · by_cases q3 : 0 ≤ a <;> by_cases q4 : 0 ≤ b <;> (have sp2 := sp; have sn2 := sn; simp [q4] at sp2 sn2; simp [q2, q3, q4, *] <;> omega)
  · by_cases q2 : b ∣ a
    · simp [Rn_iload_n (k := 0) rfl dJ9_floorDiv_7cf53_0, Rn_iload_n (k := 1) rfl dJ9_floorDiv_7cf53_1, Rn_idiv dJ9_floorDiv_7cf53_2, Rn_istore_n (k := 2) (nL := 3) rfl rfl dJ9_floorDiv_7cf53_3, Rn_iload_n (k := 0) rfl dJ9_floorDiv_7cf53_4, Rn_iload_n (k := 1) rfl dJ9_floorDiv_7cf53_5, Rn_ixor dJ9_floorDiv_7cf53_6, Rn_if_ge (t := 21) rfl dJ9_floorDiv_7cf53_7, Rn_iload_n (k := 2) rfl dJ9_floorDiv_7cf53_10, Rn_iload_n (k := 1) rfl dJ9_floorDiv_7cf53_11, Rn_imul dJ9_floorDiv_7cf53_12, Rn_iload_n (k := 0) rfl dJ9_floorDiv_7cf53_13, Rn_icmp_eq (t := 21) rfl dJ9_floorDiv_7cf53_14, Rn_iload_n (k := 2) rfl dJ9_floorDiv_7cf53_17, Rn_iconst (v := (1)) rfl dJ9_floorDiv_7cf53_18, Rn_isub dJ9_floorDiv_7cf53_19, Rn_ireturn (ty := .int) rfl dJ9_floorDiv_7cf53_20, Rn_iload_n (k := 2) rfl dJ9_floorDiv_7cf53_21, Rn_ireturn (ty := .int) rfl dJ9_floorDiv_7cf53_22, Option.bind_some, Option.bind_none, Nat.reduceAdd, Nat.reduceBEq, Nat.reduceEqDiff, lk_nil, lk_cons, lk_pt1, lk_pt2, lk_pt2b, isJ_i, isJ_r, isJ_l, gI_i, gJ_i, gR_i, Bool.false_eq_true, if_true, if_false, ite_true, ite_false, reduceIte, len4_0, len4_1, len4_2, len4_3, len4_4, Option.toList_some, Option.toList_none, List.cons_append, List.nil_append, gf_o, isO_o, pf_o, List.length_cons, List.length_nil, List.getElem?_cons_zero, List.getElem?_cons_succ, List.set_cons_zero, List.set_cons_succ, va_rf_s, up_self, rdi_a, rdi_5, rdi_0, rdi_4, wri_a, rdl_a, wrl_a, rdr_a, wrr_a, aln_0, aln_1, aln_3, aln_4, aln_5, ofI_1, ofI_m1, nar_i, hn, e1, e3, q1, e2.mpr q2]
      rw [e4]
      simp [q2]
    · simp [Rn_iload_n (k := 0) rfl dJ9_floorDiv_7cf53_0, Rn_iload_n (k := 1) rfl dJ9_floorDiv_7cf53_1, Rn_idiv dJ9_floorDiv_7cf53_2, Rn_istore_n (k := 2) (nL := 3) rfl rfl dJ9_floorDiv_7cf53_3, Rn_iload_n (k := 0) rfl dJ9_floorDiv_7cf53_4, Rn_iload_n (k := 1) rfl dJ9_floorDiv_7cf53_5, Rn_ixor dJ9_floorDiv_7cf53_6, Rn_if_ge (t := 21) rfl dJ9_floorDiv_7cf53_7, Rn_iload_n (k := 2) rfl dJ9_floorDiv_7cf53_10, Rn_iload_n (k := 1) rfl dJ9_floorDiv_7cf53_11, Rn_imul dJ9_floorDiv_7cf53_12, Rn_iload_n (k := 0) rfl dJ9_floorDiv_7cf53_13, Rn_icmp_eq (t := 21) rfl dJ9_floorDiv_7cf53_14, Rn_iload_n (k := 2) rfl dJ9_floorDiv_7cf53_17, Rn_iconst (v := (1)) rfl dJ9_floorDiv_7cf53_18, Rn_isub dJ9_floorDiv_7cf53_19, Rn_ireturn (ty := .int) rfl dJ9_floorDiv_7cf53_20, Rn_iload_n (k := 2) rfl dJ9_floorDiv_7cf53_21, Rn_ireturn (ty := .int) rfl dJ9_floorDiv_7cf53_22, Option.bind_some, Option.bind_none, Nat.reduceAdd, Nat.reduceBEq, Nat.reduceEqDiff, lk_nil, lk_cons, lk_pt1, lk_pt2, lk_pt2b, isJ_i, isJ_r, isJ_l, gI_i, gJ_i, gR_i, Bool.false_eq_true, if_true, if_false, ite_true, ite_false, reduceIte, len4_0, len4_1, len4_2, len4_3, len4_4, Option.toList_some, Option.toList_none, List.cons_append, List.nil_append, gf_o, isO_o, pf_o, List.length_cons, List.length_nil, List.getElem?_cons_zero, List.getElem?_cons_succ, List.set_cons_zero, List.set_cons_succ, va_rf_s, up_self, rdi_a, rdi_5, rdi_0, rdi_4, wri_a, rdl_a, wrl_a, rdr_a, wrr_a, aln_0, aln_1, aln_3, aln_4, aln_5, ofI_1, ofI_m1, nar_i, hn, e1, e3, q1, e2, q2]
      rw [e4, ← jI_1, jI_sub]
      congr 1
      by_cases q3 : 0 ≤ a <;> by_cases q4 : 0 ≤ b <;> (have sp2 := sp; have sn2 := sn; simp [q4] at sp2 sn2; simp [q2, q3, q4, *] <;> omega)

/-! WHAT IS TOLD OF ALL, purely -/
/-- how all are: hour, natures, what they are (by person, mood), loaves (by loaf, mood), who knead -/
abbrev Ss : Type := Int × (Int → Int → Int) × (Int → Int → Int) × (Int → Int → Int) × (Int → Int)
def sh (s : Ss) : Int := s.1
def sn (s : Ss) : Int → Int → Int := s.2.1
def sf (s : Ss) : Int → Int → Int := s.2.2.1
def sb (s : Ss) : Int → Int → Int := s.2.2.2.1
def sk (s : Ss) : Int → Int := s.2.2.2.2
/-- a town: how many (moods, people, loaves, meals, deeds), (leavens, eaters, eaten, clocks), codes (deeds, 6 turn, 7 night), (bake, evening, whim) -/
abbrev TT : Type := (Nat × Nat × Nat × Nat × Nat) × ((Int → Int) × (Int → Int) × (Int → Int) × (Int → Int)) × (Nat → List Nat) × (Int × Int × Int)
def nm (T : TT) : Nat := T.1.1
def np (T : TT) : Nat := T.1.2.1
def nl (T : TT) : Nat := T.1.2.2.1
def ne (T : TT) : Nat := T.1.2.2.2.1
def nd (T : TT) : Nat := T.1.2.2.2.2
def tlv (T : TT) : Int → Int := T.2.1.1
def tea (T : TT) : Int → Int := T.2.1.2.1
def ten (T : TT) : Int → Int := T.2.1.2.2.1
def tmc (T : TT) : Int → Int := T.2.1.2.2.2
def tc (T : TT) : Nat → List Nat := T.2.2.1
def tbak (T : TT) : Int := T.2.2.2.1
def tev (T : TT) : Int := T.2.2.2.2.1
def twh (T : TT) : Int := T.2.2.2.2.2
/-- bits of a number up to 255, told -/
def bt (w k : Int) : Int := w / 2 ^ k.toNat % 2
def pop (w : Int) : Int := w % 2 + w / 2 % 2 + w / 4 % 2 + w / 8 % 2 + w / 16 % 2 + w / 32 % 2 + w / 64 % 2 + w / 128 % 2
def asF (x : Int) : Int := max 0 (min 99 x)
def itn {α : Type} (f : Nat → α → α) : Nat → α → α
  | 0, a => a
  | k + 1, a => f k (itn f k a)
def alX (h own now br wh : Int) (c : Nat) : Int := if c = 15 then 1 else if c = 16 then h % 24 else if c = 17 then h / 24 else if c = 29 then h else if c = 18 then own else if c = 19 then now else if c = 20 then br else if c = 21 then wh else 0
def akX (na fe : Int → Int) (mo dn : Int) (c : Nat) (v : Int) : Int := if c = 30 then (if 0 ≤ v ∧ v < 6 then dn / 2 ^ v.toNat % 2 else 0) else if 0 ≤ v ∧ v < mo then (if c = 22 then fe v else na v) else 0
theorem alG_X (h : Int) (na fe : Int → Int) (br wh p : Int) : alG h na fe br wh p = alX h (na (p * 4 + wh)) (fe (p * 4 + wh)) br wh := rfl
theorem akG_X (na fe : Int → Int) (mo dn p : Int) : akG na fe mo dn p = akX (fun v => na (p * 4 + v)) (fun v => fe (p * 4 + v)) mo dn := rfl
theorem akX_congr {na fe na' fe' : Int → Int} {mo dn : Int} (h1 : ∀ v, 0 ≤ v → v < mo → na v = na' v) (h2 : ∀ v, 0 ≤ v → v < mo → fe v = fe' v) : akX na fe mo dn = akX na' fe' mo dn := by
  funext c v
  unfold akX
  by_cases h : 0 ≤ v ∧ v < mo
  · rw [h1 v h.1 h.2, h2 v h.1 h.2]
  · simp only [h, if_false]
theorem evs_congr {w c : Nat} {ts ts' : List Bool} {al al' : Nat → Int} {ak ak' : Nat → Int → Int} {s : List Int} (ht : tyc w c ts = some ts') (h15 : al 15 = al' 15) (hal : ∀ c, alw w c = true → al c = al' c) (hak : ∀ c v, akw w c = true → ak c v = ak' c v) : evs al ak c s = evs al' ak' c s := by
  rcases tyc_cases ht with ⟨hn, u, v, r, rfl, rfl, hk⟩ | ⟨hn, u, r, rfl, rfl, hk⟩ | ⟨hn, hl2, u, rfl, hk⟩
  · unfold evs
    simp only [if_pos hn]
  · unfold evs
    simp only [if_neg (show ¬ nee c = 2 by omega), if_pos hn]
    cases s with
    | nil => rfl
    | cons a r =>
      rcases hk with ⟨rfl, -⟩ | ⟨hk, -, -⟩
      · rfl
      · simp only [hak c a hk]
  · unfold evs
    simp only [if_neg (show ¬ nee c = 2 by omega), if_neg (show ¬ nee c = 1 by omega)]
    by_cases q : 256 ≤ c
    · simp only [if_pos q]
    · simp only [if_neg q]
      rcases hk with ⟨rfl, -⟩ | ⟨hk, -⟩ | ⟨hk, -, -⟩
      · rw [h15]
      · omega
      · rw [hal c hk]
theorem evc_congr {w : Nat} {al al' : Nat → Int} {ak ak' : Nat → Int → Int} (h15 : al 15 = al' 15) (hal : ∀ c, alw w c = true → al c = al' c) (hak : ∀ c v, akw w c = true → ak c v = ak' c v) : ∀ {cs : List Nat} {ts ts' : List Bool} {s : List Int}, tycs w cs ts = some ts' → evc al ak cs s = evc al' ak' cs s := by
  intro cs
  induction cs with
  | nil => intro ts ts' s _; rfl
  | cons c r ih =>
    intro ts ts' s ht
    simp only [tycs] at ht
    cases ht1 : tyc w c ts with
    | none => rw [ht1] at ht; cases ht
    | some t1 =>
      rw [ht1] at ht
      rw [evc_cons, evc_cons, evs_congr ht1 h15 hal hak]
      exact ih ht
/-- a code's value -/
def evT (cs : List Nat) (h own now br wh : Int) (na fe : Int → Int) (mo dn : Int) : Int := (evc (alX h own now br wh) (akX na fe mo dn) cs []).headD 0
def z1 : Int → Int := fun _ => 0
/-- turn and night ask of one's own mood alone -/
theorem evT_0 {cs : List Nat} {ts : List Bool} (ht : tycs 0 cs [] = some ts) (h own now br wh : Int) (na fe : Int → Int) (mo dn : Int) : evT cs h own now br wh na fe mo dn = evT cs h own now br wh z1 z1 0 0 := by
  unfold evT
  have := evc_congr (w := 0) (al := alX h own now br wh) (al' := alX h own now br wh) (ak := akX na fe mo dn) (ak' := akX z1 z1 0 0) rfl (fun _ _ => rfl) (fun c v h => by simp [akw] at h) (s := []) ht
  rw [this]
/-- deeds ask of all moods -/
theorem evT_1 {cs : List Nat} {ts : List Bool} (ht : tycs 1 cs [] = some ts) (h own now br wh : Int) (na fe : Int → Int) (mo dn : Int) : evT cs h own now br wh na fe mo dn = evT cs h 0 0 0 0 na fe mo 0 := by
  unfold evT
  have := evc_congr (w := 1) (al := alX h own now br wh) (al' := alX h 0 0 0 0) (ak := akX na fe mo dn) (ak' := akX na fe mo 0) (by simp [alX]) (fun c q => by
    simp only [alw, Bool.or_eq_true, Bool.and_eq_true, beq_iff_eq] at q
    rcases (show c = 16 ∨ c = 17 by omega) with rfl | rfl <;> simp [alX]) (fun c v q => by
    simp only [akw, Bool.or_eq_true, Bool.and_eq_true, beq_iff_eq] at q
    rcases (show c = 22 ∨ c = 23 by omega) with rfl | rfl <;> simp [akX]) (s := []) ht
  rw [this]
theorem evT_2 {cs : List Nat} {ts : List Bool} (ht : tycs 2 cs [] = some ts) (h own now br wh : Int) (na fe : Int → Int) (mo dn : Int) : evT cs h own now br wh na fe mo dn = evT cs h 0 0 0 0 na fe mo dn := by
  unfold evT
  have := evc_congr (w := 2) (al := alX h own now br wh) (al' := alX h 0 0 0 0) (ak := akX na fe mo dn) (ak' := akX na fe mo dn) (by simp [alX]) (fun c q => by
    simp only [alw, Bool.or_eq_true, Bool.and_eq_true, beq_iff_eq] at q
    rcases (show c = 16 ∨ c = 17 ∨ c = 29 by omega) with rfl | rfl | rfl <;> simp [alX]) (fun c v q => rfl) (s := []) ht
  rw [this]
/-- baking, eating, sleeping -/
def tgS (w : Int) (f : Int → Int) : Nat → Int
  | 0 => 0
  | k + 1 => tgS w f k + (if bt w k = 1 then f k else 0)
def bakeF (T : TT) (l : Int) (s : Ss) : Ss := (sh s, sn s, sf s, fun l' m => if l' = l then ((100 - tlv T l) * tgS (sk s l) (fun p => sf s p m) (np T) + tlv T l * pop (sk s l) * sb s l m) / (100 * pop (sk s l)) else sb s l' m, sk s)
def eatF (T : TT) (k : Int) (s : Ss) : Ss := (sh s, sn s, fun p m => if p = tea T k then asF (if tc T 6 = [] then sb s (ten T k) m else evT (tc T 6) (sh s) (sn s p m) (sf s p m) (sb s (ten T k) m) m z1 z1 0 0) else sf s p m, sb s, sk s)
def slpV (T : TT) (s : Ss) (p m : Int) : Int := if tc T 7 = [] then sn s p m else asF (evT (tc T 7) (sh s) (sn s p m) (sf s p m) 0 m z1 z1 0 0)
def sleepF (T : TT) (p0 : Int) (s : Ss) : Ss := (sh s, fun p m => if p = p0 then slpV T s p m else sn s p m, fun p m => if p = p0 then slpV T s p m else sf s p m, sb s, sk s)
def hourF (T : TT) (s : Ss) : Ss :=
  let h := sh s + 1
  let s0 : Ss := (h, s.2)
  let s1 := if h % 24 = tbak T then itn (fun l => bakeF T l) (nl T) s0 else s0
  let s2 := itn (fun k s => if tmc T k = h % 24 then eatF T k s else s) (ne T) s1
  if h % 24 = tev T then itn (fun p => sleepF T p) (np T) s2 else s2
def hoursF (T : TT) : Nat → Ss → Ss := fun n => itn (fun _ => hourF T) n
/-- whether one does a deed -/
def doF (T : TT) (s : Ss) (p : Int) (d : Nat) : Int := evT (tc T d) (sh s) 0 0 0 0 (sn s p) (sf s p) (nm T) 0
/-- the deeds that one does, as bits -/
def ddF (T : TT) (s : Ss) (p : Int) : Nat → Int
  | 0 => 0
  | d + 1 => ddF T s p d + (if doF T s p d = 0 then 0 else 2 ^ d)
def wfT (T : TT) : Prop := nm T ≤ 4 ∧ np T ≤ 8 ∧ nl T ≤ 6 ∧ ne T ≤ 16 ∧ nd T ≤ 6 ∧ (∀ l : Int, 0 ≤ l → l < nl T → 0 ≤ tlv T l ∧ tlv T l ≤ 100) ∧ (∀ k : Int, 0 ≤ k → k < ne T → (0 ≤ tea T k ∧ tea T k < np T) ∧ (0 ≤ ten T k ∧ ten T k < nl T) ∧ 0 ≤ tmc T k ∧ tmc T k < 24) ∧ (∀ d, d < nd T → tycs 1 (tc T d) [] = some [true]) ∧ (tc T 6 = [] ∨ tycs 0 (tc T 6) [] = some [false]) ∧ (tc T 7 = [] ∨ tycs 0 (tc T 7) [] = some [false]) ∧ (0 ≤ tbak T ∧ tbak T < 24) ∧ (0 ≤ tev T ∧ tev T < 24) ∧ 0 ≤ twh T ∧ twh T ≤ 99
def wfS (T : TT) (s : Ss) : Prop := (0 ≤ sh s ∧ sh s ≤ 9999) ∧ (∀ p m : Int, 0 ≤ p → p < np T → 0 ≤ m → m < nm T → (0 ≤ sn s p m ∧ sn s p m ≤ 99) ∧ 0 ≤ sf s p m ∧ sf s p m ≤ 99) ∧ (∀ l m : Int, 0 ≤ l → l < nl T → 0 ≤ m → m < nm T → 0 ≤ sb s l m ∧ sb s l m ≤ 99) ∧ (∀ l : Int, 0 ≤ l → l < nl T → 1 ≤ sk s l ∧ sk s l < 2 ^ np T ∧ pop (sk s l) ≤ 3)
/-- a State of the class -/
def SR (T : TT) (M : Me) (a : Nat) (s : Ss) : Prop := M a 0 = sh s ∧ (∀ p m : Int, 0 ≤ p → p < np T → 0 ≤ m → m < nm T → M (a + 1) (p * 4 + m) = sn s p m ∧ M (a + 2) (p * 4 + m) = sf s p m) ∧ (∀ l m : Int, 0 ≤ l → l < nl T → 0 ≤ m → m < nm T → M (a + 3) (l * 4 + m) = sb s l m) ∧ (∀ l : Int, 0 ≤ l → l < nl T → M (a + 4) l = sk s l)
/-- a Town of the class -/
def TR (M : Me) (t : Nat) (T : TT) : Prop := (M (t + 1) 0 = nm T ∧ M (t + 1) 1 = np T ∧ M (t + 1) 2 = nl T ∧ M (t + 1) 3 = ne T ∧ M (t + 1) 4 = nd T) ∧ (∀ l : Int, 0 ≤ l → l < nl T → M (t + 4) l = tlv T l) ∧ (∀ k : Int, 0 ≤ k → k < ne T → M (t + 6) k = tea T k ∧ M (t + 7) k = ten T k ∧ M (t + 8) k = tmc T k) ∧ (∀ j : Nat, j < nd T ∨ j = 6 ∨ j = 7 → 0 ≤ M (t + 11) j ∧ M (t + 12) j = M (t + 11) j + (tc T j).length ∧ M (t + 12) j ≤ 1600 ∧ cdM (M (t + 10)) (M (t + 11) j) (tc T j)) ∧ (M t 12 = tbak T ∧ M t 13 = tev T ∧ M t 14 = twh T) ∧ (0 ≤ M t 15 ∧ M t 15 < 2147483648) ∧ ∀ c : Nat, c < 24 → M t 15 / 2 ^ c % 2 = 0 → (np T = 0 ∧ nl T = 0 ∧ ne T = 0) ∨ ¬ ((c : Int) = tbak T ∨ (c : Int) = tev T ∨ ∃ k : Int, 0 ≤ k ∧ k < ne T ∧ tmc T k = c)
/-! small methods -/
def bcE (x : Int32) : Int32 :=
  let a := x - ((x.toUInt32 >>> (Int32.toUInt32 1 &&& Int32.toUInt32 31)).toInt32 &&& 1431655765)
  let b := (a &&& 858993459) + ((a.toUInt32 >>> (Int32.toUInt32 2 &&& Int32.toUInt32 31)).toInt32 &&& 858993459)
  let c := (b + (b.toUInt32 >>> (Int32.toUInt32 4 &&& Int32.toUInt32 31)).toInt32) &&& 252645135
  let e := c + (c.toUInt32 >>> (Int32.toUInt32 8 &&& Int32.toUInt32 31)).toInt32
  let f := e + (e.toUInt32 >>> (Int32.toUInt32 16 &&& Int32.toUInt32 31)).toInt32
  f &&& 63
theorem bcE_pop : ∀ k, k < 256 → bcE (nI k) = jI (pop (k : Int)) := by decide +kernel
theorem s_bitCount (d : Nat) (h : Hp) (x : Int32) : X (d + 1) 275 [.int x] h = some (some (.int (bcE x)), h) := by
  rw [Xe_J6_bitCount_0f7a4]
  simp only [Rn_iload_n (k := 0) rfl dJ6_bitCount_0f7a4_0, Rn_iload_n (k := 0) rfl dJ6_bitCount_0f7a4_1, Rn_iconst (v := (1)) rfl dJ6_bitCount_0f7a4_2, Rn_iushr dJ6_bitCount_0f7a4_3, Rn_ldc_w kl_13_265 dJ6_bitCount_0f7a4_4, Rn_iand dJ6_bitCount_0f7a4_7, Rn_isub dJ6_bitCount_0f7a4_8, Rn_istore_n (k := 0) (nL := 1) rfl rfl dJ6_bitCount_0f7a4_9, Rn_iload_n (k := 0) rfl dJ6_bitCount_0f7a4_10, Rn_ldc_w kl_13_266 dJ6_bitCount_0f7a4_11, Rn_iand dJ6_bitCount_0f7a4_14, Rn_iload_n (k := 0) rfl dJ6_bitCount_0f7a4_15, Rn_iconst (v := (2)) rfl dJ6_bitCount_0f7a4_16, Rn_iushr dJ6_bitCount_0f7a4_17, Rn_ldc_w kl_13_266 dJ6_bitCount_0f7a4_18, Rn_iand dJ6_bitCount_0f7a4_21, Rn_iadd dJ6_bitCount_0f7a4_22, Rn_istore_n (k := 0) (nL := 1) rfl rfl dJ6_bitCount_0f7a4_23, Rn_iload_n (k := 0) rfl dJ6_bitCount_0f7a4_24, Rn_iload_n (k := 0) rfl dJ6_bitCount_0f7a4_25, Rn_iconst (v := (4)) rfl dJ6_bitCount_0f7a4_26, Rn_iushr dJ6_bitCount_0f7a4_27, Rn_iadd dJ6_bitCount_0f7a4_28, Rn_ldc_w kl_13_267 dJ6_bitCount_0f7a4_29, Rn_iand dJ6_bitCount_0f7a4_32, Rn_istore_n (k := 0) (nL := 1) rfl rfl dJ6_bitCount_0f7a4_33, Rn_iload_n (k := 0) rfl dJ6_bitCount_0f7a4_34, Rn_iload_n (k := 0) rfl dJ6_bitCount_0f7a4_35, Rn_bipush (v := (8)) rfl dJ6_bitCount_0f7a4_36, Rn_iushr dJ6_bitCount_0f7a4_38, Rn_iadd dJ6_bitCount_0f7a4_39, Rn_istore_n (k := 0) (nL := 1) rfl rfl dJ6_bitCount_0f7a4_40, Rn_iload_n (k := 0) rfl dJ6_bitCount_0f7a4_41, Rn_iload_n (k := 0) rfl dJ6_bitCount_0f7a4_42, Rn_bipush (v := (16)) rfl dJ6_bitCount_0f7a4_43, Rn_iushr dJ6_bitCount_0f7a4_45, Rn_iadd dJ6_bitCount_0f7a4_46, Rn_istore_n (k := 0) (nL := 1) rfl rfl dJ6_bitCount_0f7a4_47, Rn_iload_n (k := 0) rfl dJ6_bitCount_0f7a4_48, Rn_bipush (v := (63)) rfl dJ6_bitCount_0f7a4_49, Rn_iand dJ6_bitCount_0f7a4_51, Rn_ireturn (ty := .int) rfl dJ6_bitCount_0f7a4_52, Option.bind_some, Option.bind_none, Nat.reduceAdd, Nat.reduceBEq, Nat.reduceEqDiff, lk_nil, lk_cons, lk_pt1, lk_pt2, lk_pt2b, isJ_i, isJ_r, isJ_l, gI_i, gJ_i, gR_i, Bool.false_eq_true, if_true, if_false, ite_true, ite_false, reduceIte, len4_0, len4_1, len4_2, len4_3, len4_4, Option.toList_some, Option.toList_none, List.cons_append, List.nil_append, gf_o, isO_o, pf_o, List.length_cons, List.length_nil, List.getElem?_cons_zero, List.getElem?_cons_succ, List.set_cons_zero, List.set_cons_succ, va_rf_s, up_self, rdi_a, rdi_5, rdi_0, rdi_4, wri_a, rdl_a, wrl_a, rdr_a, wrr_a, aln_0, aln_1, aln_3, aln_4, aln_5, ofI_1, ofI_m1, nar_i]
  unfold bcE
  with_reducible rfl
theorem n_bitCount (d : Nat) (h : Hp) {w : Int} (h0 : 0 ≤ w) (h1 : w < 256) : X (d + 1) 275 [.int (jI w)] h = some (some (.int (jI (pop w))), h) := by
  rw [s_bitCount, int_nat h0, bcE_pop _ (by omega), Int.toNat_of_nonneg h0]
theorem n_asFelt (d : Nat) (h : Hp) {x : Int} (h0 : -2147483648 ≤ x) (h1 : x < 2147483648) : X (d + 2) 128 [.int (jI x)] h = some (some (.int (jI (asF x))), h) := by
  rw [Xe_X11_asFelt]
  have e1 := j_min d h (a := 99) (b := x) (by omega) (by omega)
  have e2 := j_max d h (a := 0) (b := min 99 x) (by omega) (by omega)
  simp (disch := omega) only [Rn_iconst (v := jI (0)) rfl dX11_asFelt_0, Rn_bipush (v := jI (99)) rfl dX11_asFelt_1, Rm_iload_n (k := 0) rfl dX11_asFelt_3, Rm_inS2 (d := dX11_asFelt_4) ml_11_289 rfl, Rm_inS2 (d := dX11_asFelt_7) ml_11_292 rfl, Rn_ireturn (ty := .int) rfl dX11_asFelt_10, qI_s, qJ_s, qR_s, qV_s, qX_s, qN_s, qW_s, qF_s, qC_s, Option.bind_some, Option.bind_none, Nat.reduceAdd, Nat.reduceBEq, Nat.reduceEqDiff, lk_nil, lk_cons, lk_pt1, lk_pt2i, isJ_i, isJ_r, isJ_l, gI_i, gJ_i, gR_i, Bool.false_eq_true, if_true, if_false, ite_true, ite_false, ↓reduceIte, len4_0, len4_1, len4_2, len4_3, len4_4, Option.toList_some, Option.toList_none, List.cons_append, List.nil_append, va_rf_s, up_hp, ofI_j, jI_add, jI_sub, jI_mul, jI_neg, jL_add, jL_sub, jL_mul, jI_jL, jL_jI, nar_i, nar_zj, lt_t, lt_f, le_t, le_f, eq_t, eq_f, ez_t, ez_f, lz_t, lz_f, gz_t, gz_f, nz_t, nz_f, pz_t, pz_f, lgc_gt, lgc_lt, lgc_ge, lgc_le, lgc_eq, Lt_t, Lt_f, Le_t, Le_f, Eq_t, Eq_f, dv_j, not_true_eq_false, not_false_eq_true, Int.reduceEq, Int.reduceAdd, Int.reduceSub, Int.reduceMul, Int.reduceNeg, Ez_t, Ez_f, dv_L, false_and, true_and, and_true, and_false, e1, e2]
  rfl
theorem n_isTold {t n z : Nat} {H : Nat → AC} {M : Me} (ht : kd t = 9) {j : Int} (h0 : 0 ≤ j) (h1 : j < 8) (d : Nat) (r0 : 0 ≤ M (t + 11) j) (r1 : M (t + 11) j ≤ M (t + 12) j) (r2 : M (t + 12) j < 2147483648) : X (d + 1) 73 [.ref t, .int (jI j)] (n, z, hp H M) = some (some (.int (jI (if M (t + 11) j < M (t + 12) j then 1 else 0))), (n, z, hp H M)) := by
  rw [Xe_X9_isTold]
  by_cases q : M (t + 11) j < M (t + 12) j
  · simp (disch := omega) only [Rm_aload_n (k := 0) rfl dX9_isTold_0, Rm_getfield fl_9_49 dX9_isTold_1, Rm_iload_n (k := 1) rfl dX9_isTold_4, Rm_iaload dX9_isTold_5, Rm_aload_n (k := 0) rfl dX9_isTold_6, Rm_getfield fl_9_46 dX9_isTold_7, Rm_iload_n (k := 1) rfl dX9_isTold_10, Rm_iaload dX9_isTold_11, Rn_icmp_le (t := 19) rfl dX9_isTold_12, Rn_iconst (v := jI (1)) rfl dX9_isTold_15, Rn_goto (t := 20) rfl dX9_isTold_16, Rn_iconst (v := jI (0)) rfl dX9_isTold_19, Rn_ireturn (ty := .boolean) rfl dX9_isTold_20, gs9_10 ht, rdM (ka9_10 ht) (la9_10 ht), wrM (ka9_10 ht) (la9_10 ht), alM (ka9_10 ht) (la9_10 ht), gs9_11 ht, rdM (ka9_11 ht) (la9_11 ht), wrM (ka9_11 ht) (la9_11 ht), alM (ka9_11 ht) (la9_11 ht), qI_s, qJ_s, qR_s, qV_s, qX_s, qN_s, qW_s, qF_s, qC_s, Option.bind_some, Option.bind_none, Nat.reduceAdd, Nat.reduceBEq, Nat.reduceEqDiff, lk_nil, lk_cons, lk_pt1, lk_pt2i, isJ_i, isJ_r, isJ_l, gI_i, gJ_i, gR_i, Bool.false_eq_true, if_true, if_false, ite_true, ite_false, ↓reduceIte, len4_0, len4_1, len4_2, len4_3, len4_4, Option.toList_some, Option.toList_none, List.cons_append, List.nil_append, va_rf_s, up_hp, ofI_j, jI_add, jI_sub, jI_mul, jI_neg, jL_add, jL_sub, jL_mul, jI_jL, jL_jI, nar_i, nar_zj, lt_t, lt_f, le_t, le_f, eq_t, eq_f, ez_t, ez_f, lz_t, lz_f, gz_t, gz_f, nz_t, nz_f, pz_t, pz_f, lgc_gt, lgc_lt, lgc_ge, lgc_le, lgc_eq, Lt_t, Lt_f, Le_t, Le_f, Eq_t, Eq_f, dv_j, not_true_eq_false, not_false_eq_true, Int.reduceEq, Int.reduceAdd, Int.reduceSub, Int.reduceMul, Int.reduceNeg, Ez_t, Ez_f, dv_L, false_and, true_and, and_true, and_false, q]
  · simp (disch := omega) only [Rm_aload_n (k := 0) rfl dX9_isTold_0, Rm_getfield fl_9_49 dX9_isTold_1, Rm_iload_n (k := 1) rfl dX9_isTold_4, Rm_iaload dX9_isTold_5, Rm_aload_n (k := 0) rfl dX9_isTold_6, Rm_getfield fl_9_46 dX9_isTold_7, Rm_iload_n (k := 1) rfl dX9_isTold_10, Rm_iaload dX9_isTold_11, Rn_icmp_le (t := 19) rfl dX9_isTold_12, Rn_iconst (v := jI (1)) rfl dX9_isTold_15, Rn_goto (t := 20) rfl dX9_isTold_16, Rn_iconst (v := jI (0)) rfl dX9_isTold_19, Rn_ireturn (ty := .boolean) rfl dX9_isTold_20, gs9_10 ht, rdM (ka9_10 ht) (la9_10 ht), wrM (ka9_10 ht) (la9_10 ht), alM (ka9_10 ht) (la9_10 ht), gs9_11 ht, rdM (ka9_11 ht) (la9_11 ht), wrM (ka9_11 ht) (la9_11 ht), alM (ka9_11 ht) (la9_11 ht), qI_s, qJ_s, qR_s, qV_s, qX_s, qN_s, qW_s, qF_s, qC_s, Option.bind_some, Option.bind_none, Nat.reduceAdd, Nat.reduceBEq, Nat.reduceEqDiff, lk_nil, lk_cons, lk_pt1, lk_pt2i, isJ_i, isJ_r, isJ_l, gI_i, gJ_i, gR_i, Bool.false_eq_true, if_true, if_false, ite_true, ite_false, ↓reduceIte, len4_0, len4_1, len4_2, len4_3, len4_4, Option.toList_some, Option.toList_none, List.cons_append, List.nil_append, va_rf_s, up_hp, ofI_j, jI_add, jI_sub, jI_mul, jI_neg, jL_add, jL_sub, jL_mul, jI_jL, jL_jI, nar_i, nar_zj, lt_t, lt_f, le_t, le_f, eq_t, eq_f, ez_t, ez_f, lz_t, lz_f, gz_t, gz_f, nz_t, nz_f, pz_t, pz_f, lgc_gt, lgc_lt, lgc_ge, lgc_le, lgc_eq, Lt_t, Lt_f, Le_t, Le_f, Eq_t, Eq_f, dv_j, not_true_eq_false, not_false_eq_true, Int.reduceEq, Int.reduceAdd, Int.reduceSub, Int.reduceMul, Int.reduceNeg, Ez_t, Ez_f, dv_L, false_and, true_and, and_true, and_false, q]

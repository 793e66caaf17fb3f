/-! numbers of the memory: comparisons, by omega -/
theorem ofI_j (x : Int) : Int32.ofInt x = jI x := rfl
theorem lt_t {a b : Int} (h1 : -2147483648 ≤ a) (h : a < b) (h2 : b < 2147483648) : jI a < jI b := (jI_lt (by omega) (by omega)).mpr h
theorem lt_f {a b : Int} (h : b ≤ a) (h1 : -2147483648 ≤ b) (h2 : a < 2147483648) : ¬ jI a < jI b := fun q => by have := (jI_lt (by omega) (by omega)).mp q; omega
theorem le_t {a b : Int} (h1 : -2147483648 ≤ a) (h : a ≤ b) (h2 : b < 2147483648) : jI a ≤ jI b := (jI_le (by omega) (by omega)).mpr h
theorem le_f {a b : Int} (h : b < a) (h1 : -2147483648 ≤ b) (h2 : a < 2147483648) : ¬ jI a ≤ jI b := fun q => by have := (jI_le (by omega) (by omega)).mp q; omega
theorem eq_t {a b : Int} (h : a = b) : (jI a = jI b) = True := by rw [h]; exact eq_self _
theorem eq_f {a b : Int} (h : ¬ a = b) (h1 : -2147483648 ≤ a) (h2 : a < 2147483648) (h3 : -2147483648 ≤ b) (h4 : b < 2147483648) : ¬ jI a = jI b := fun q => h ((jI_eq ⟨h1, h2⟩ ⟨h3, h4⟩).mp q)
theorem ez_t {a : Int} (h : a = 0) : (jI a = 0) = True := by rw [h, jI_0]; exact eq_self _
theorem ez_f {a : Int} (h : ¬ a = 0) (h1 : -2147483648 ≤ a) (h2 : a < 2147483648) : ¬ jI a = 0 := by rw [← jI_0]; exact eq_f h h1 h2 (by omega) (by omega)
theorem lz_t {a : Int} (h : a < 0) (h1 : -2147483648 ≤ a) : jI a < 0 := by rw [← jI_0]; exact lt_t h1 h (by omega)
theorem lz_f {a : Int} (h : 0 ≤ a) (h1 : a < 2147483648) : ¬ jI a < 0 := by rw [← jI_0]; exact lt_f h (by omega) h1
theorem gz_t {a : Int} (h : 0 ≤ a) (h1 : a < 2147483648) : 0 ≤ jI a := by rw [← jI_0]; exact le_t (by omega) h h1
theorem gz_f {a : Int} (h : a < 0) (h1 : -2147483648 ≤ a) : ¬ 0 ≤ jI a := by rw [← jI_0]; exact le_f h h1 (by omega)
theorem nz_t {a : Int} (h : 0 < a) (h1 : a < 2147483648) : 0 < jI a := by rw [← jI_0]; exact lt_t (by omega) h h1
theorem nz_f {a : Int} (h : a ≤ 0) (h1 : -2147483648 ≤ a) : ¬ 0 < jI a := by rw [← jI_0]; exact lt_f h h1 (by omega)
theorem pz_t {a : Int} (h : a ≤ 0) (h1 : -2147483648 ≤ a) : jI a ≤ 0 := by rw [← jI_0]; exact le_t h1 h (by omega)
theorem pz_f {a : Int} (h : 0 < a) (h1 : a < 2147483648) : ¬ jI a ≤ 0 := by rw [← jI_0]; exact le_f h (by omega) h1
theorem Lt_t {a b : Int} (h1 : -9223372036854775808 ≤ a) (h : a < b) (h2 : b < 9223372036854775808) : jL a < jL b := (jL_lt (by omega) (by omega)).mpr h
theorem Lt_f {a b : Int} (h : b ≤ a) (h1 : -9223372036854775808 ≤ b) (h2 : a < 9223372036854775808) : ¬ jL a < jL b := fun q => by have := (jL_lt (by omega) (by omega)).mp q; omega
theorem Le_t {a b : Int} (h1 : -9223372036854775808 ≤ a) (h : a ≤ b) (h2 : b < 9223372036854775808) : jL a ≤ jL b := (jL_le (by omega) (by omega)).mpr h
theorem Le_f {a b : Int} (h : b < a) (h1 : -9223372036854775808 ≤ b) (h2 : a < 9223372036854775808) : ¬ jL a ≤ jL b := fun q => by have := (jL_le (by omega) (by omega)).mp q; omega
theorem Eq_t {a b : Int} (h : a = b) : (jL a = jL b) = True := by rw [h]; exact eq_self _
theorem Ez_t {a : Int} (h : a = 0) : (jL a = 0) = True := by rw [h, jL_0]; exact eq_self _
theorem Eq_f {a b : Int} (h : ¬ a = b) (h1 : -9223372036854775808 ≤ a) (h2 : a < 9223372036854775808) (h3 : -9223372036854775808 ≤ b) (h4 : b < 9223372036854775808) : ¬ jL a = jL b := fun q => h ((jL_eq ⟨h1, h2⟩ ⟨h3, h4⟩).mp q)
theorem Ez_f {a : Int} (h : ¬ a = 0) (h1 : -9223372036854775808 ≤ a) (h2 : a < 9223372036854775808) : ¬ jL a = 0 := by rw [← jL_0]; exact Eq_f h h1 h2 (by omega) (by omega)
theorem dv_j {a b : Int} (h0 : 0 ≤ a) (h1 : a < 2147483648) (h2 : 0 < b) (h3 : b < 2147483648) : jI a / jI b = jI (a / b) := by
  rw [jI_div (by omega) (by omega), Int.tdiv_eq_ediv_of_nonneg h0]
theorem dv_L {a b : Int} (h0 : 0 ≤ a) (h1 : a < 9223372036854775808) (h2 : 0 < b) (h3 : b < 9223372036854775808) : jL a / jL b = jL (a / b) := by
  rw [jL_div (by omega) (by omega), Int.tdiv_eq_ediv_of_nonneg h0]
theorem md_j (a b : Int) : a - a / b * b = a % b := by rw [Int.emod_def, Int.mul_comm]
theorem jI_jL2 {x : Int} (h1 : -2147483648 ≤ x) (h2 : x < 2147483648) : (jI x).toInt64 = jL x := jI_jL ⟨h1, h2⟩
theorem nar_zj {v : Int} (h0 : 0 ≤ v) (h1 : v ≤ 1) : narrow .boolean (.int (jI v)) = .int (jI v) := by
  rcases (show v = 0 ∨ v = 1 by omega) with rfl | rfl
  · exact nar_z0
  · exact nar_z1
theorem fz_0 : fitV .boolean (.int (jI 0)) = true := by decide
theorem fz_1 : fitV .boolean (.int (jI 1)) = true := by decide
theorem hp_old {H : Nat → AC} {M : Me} {a : Nat} (h : kd a = 99) : hp H M a = H a := if_pos h
theorem k0o : kd 0 = 99 := rfl
theorem k1o : kd 1 = 99 := rfl
theorem k2o : kd 2 = 99 := rfl
theorem k3o : kd 3 = 99 := rfl
theorem k4o : kd 4 = 99 := rfl
theorem k5o : kd 5 = 99 := rfl
theorem k6o : kd 6 = 99 := rfl
theorem k7o : kd 7 = 99 := rfl
/-! loops: T speaks of how the whole frame ends -/
theorem Rn_for {call : Nat → List Value → Hp → Option Rs} {o : Nat} {rt : Option FieldType} {ini : Bool} {nL : Nat} {cc : ByteArray} {pc n z : Nat} {H : Nat → AC} (N : Nat) (Q : Nat → Lo → Me → Prop) (T : Option Rs → Prop)
    (step : ∀ k, k < N → ∀ l M, Q k l M → (∀ l' M', Q (k + 1) l' M' → T (Rn call o rt ini nL cc (pc, l', [], (n, z, hp H M')))) → T (Rn call o rt ini nL cc (pc, l, [], (n, z, hp H M))))
    (fin : ∀ l M, Q N l M → T (Rn call o rt ini nL cc (pc, l, [], (n, z, hp H M)))) : ∀ k, k ≤ N → ∀ l M, Q k l M → T (Rn call o rt ini nL cc (pc, l, [], (n, z, hp H M))) := by
  have key : ∀ m k, k + m = N → ∀ l M, Q k l M → T (Rn call o rt ini nL cc (pc, l, [], (n, z, hp H M))) := by
    intro m
    induction m with
    | zero =>
      intro k hk l M q
      have : k = N := by omega
      subst this
      exact fin l M q
    | succ m ih =>
      intro k hk l M q
      exact step k (by omega) l M q (fun l' M' q' => ih (k + 1) (by omega) l' M' q')
  intro k hk l M q
  exact key (N - k) k (by omega) l M q
theorem Rn_wh {call : Nat → List Value → Hp → Option Rs} {o : Nat} {rt : Option FieldType} {ini : Bool} {nL : Nat} {cc : ByteArray} {pc n z : Nat} {H : Nat → AC} (Q : Nat → Lo → Me → Prop) (T : Option Rs → Prop)
    (step : ∀ m l M, Q m l M → (∀ m' l' M', m' < m → Q m' l' M' → T (Rn call o rt ini nL cc (pc, l', [], (n, z, hp H M')))) → T (Rn call o rt ini nL cc (pc, l, [], (n, z, hp H M)))) : ∀ m l M, Q m l M → T (Rn call o rt ini nL cc (pc, l, [], (n, z, hp H M))) := by
  intro m
  induction m using Nat.strongRecOn with
  | ind m ih => exact fun l M q => step m l M q (fun m' l' M' hm q' => ih m' hm l' M' q')
theorem ex_of {r : Option Rs} {v : Option Value} {n z : Nat} {H : Nat → AC} {P : Me → Prop} (h : ∀ T : Option Rs → Prop, (∀ M', P M' → T (some (v, (n, z, hp H M')))) → T r) : ∃ M', r = some (v, (n, z, hp H M')) ∧ P M' := h (fun r => ∃ M', r = some (v, (n, z, hp H M')) ∧ P M') (fun M' hM => ⟨M', rfl, hM⟩)
theorem eq_of {r : Option Rs} {x : Rs} (h : ∀ T : Option Rs → Prop, T (some x) → T r) : r = some x := h (fun r => r = some x) rfl
theorem kj_13_265 : kl 13 265 = some (jI (1431655765), 885) := kl_13_265
theorem kj_13_266 : kl 13 266 = some (jI (858993459), 886) := kl_13_266
theorem kj_13_267 : kl 13 267 = some (jI (252645135), 887) := kl_13_267
theorem lj_8_60 : ll 8 60 = some (jL (-1000000), 862) := ll_8_60
theorem lj_8_62 : ll 8 62 = some (jL (1000000), 863) := ll_8_62
theorem lj_11_217 : ll 11 217 = some (jL (100), 1000) := ll_11_217
theorem lj_11_219 : ll 11 219 = some (jL (1000), 1001) := ll_11_219
theorem lj_11_307 : ll 11 307 = some (jL (1103515245), 1045) := ll_11_307
theorem lj_11_309 : ll 11 309 = some (jL (12345), 1046) := ll_11_309
theorem lj_11_311 : ll 11 311 = some (jL (2147483647), 1047) := ll_11_311
theorem lj_11_313 : ll 11 313 = some (jL (64), 1048) := ll_11_313
theorem lj_11_263 : ll 11 263 = some (jL (-1000000000000000), 1118) := ll_11_263
theorem lj_11_315 : ll 11 315 = some (jL (-1), 1128) := ll_11_315
theorem lj_12_293 : ll 12 293 = some (jL (27), 1543) := ll_12_293
theorem lj_12_295 : ll 12 295 = some (jL (97), 1544) := ll_12_295
theorem lj_12_658 : ll 12 658 = some (jL (1000000), 1768) := ll_12_658
theorem lj_12_660 : ll 12 660 = some (jL (-1000000), 1769) := ll_12_660
theorem lj_12_499 : ll 12 499 = some (jL (3), 1777) := ll_12_499
theorem lj_12_501 : ll 12 501 = some (jL (5), 1778) := ll_12_501
theorem lj_12_518 : ll 12 518 = some (jL (200), 1835) := ll_12_518
theorem lj_12_456 : ll 12 456 = some (jL (99), 1860) := ll_12_456
theorem lj_12_532 : ll 12 532 = some (jL (2), 1873) := ll_12_532
theorem lj_12_549 : ll 12 549 = some (jL (6), 1913) := ll_12_549
theorem lj_12_551 : ll 12 551 = some (jL (100), 1914) := ll_12_551
theorem lj_12_553 : ll 12 553 = some (jL (1000), 1915) := ll_12_553
theorem lj_12_561 : ll 12 561 = some (jL (500), 1932) := ll_12_561
theorem lj_12_583 : ll 12 583 = some (jL (20), 1957) := ll_12_583
theorem lj_12_569 : ll 12 569 = some (jL (1103515245), 1966) := ll_12_569
theorem lj_12_571 : ll 12 571 = some (jL (12345), 1967) := ll_12_571
theorem lj_12_573 : ll 12 573 = some (jL (2147483648), 1968) := ll_12_573
theorem lj_12_575 : ll 12 575 = some (jL (64), 1969) := ll_12_575
theorem lj_12_682 : ll 12 682 = some (jL (-1000000000000000), 2009) := ll_12_682
theorem lj_12_676 : ll 12 676 = some (jL (-1), 2014) := ll_12_676
/-! switches on numbers -/
theorem Rn_ts {call : Nat → List Value → Hp → Option Rs} {o : Nat} {rt : Option FieldType} {ini : Bool} {nL : Nat} {cc : ByteArray} {pc : Nat} {l : Lo} {stk : List Value} {h : Hp} {dd lw hi : Int} {offs : Array Int} {len : Nat} (x : Int) (t : Nat) (hx : (jI x).toInt = x) (d : decode cc pc = .ok (.tableswitch dd lw hi offs, len)) (ht : (if x < lw ∨ hi < x then jmp pc dd else (offs[(x - lw).toNat]?).bind (fun off => jmp pc off)) = some t) : Rn call o rt ini nL cc (pc, l, .int (jI x) :: stk, h) = Rn call o rt ini nL cc (t, l, stk, h) := by
  rw [Rn_tableswitch d, hx, ht]
  rfl
theorem Rn_tsd {call : Nat → List Value → Hp → Option Rs} {o : Nat} {rt : Option FieldType} {ini : Bool} {nL : Nat} {cc : ByteArray} {pc : Nat} {l : Lo} {stk : List Value} {h : Hp} {dd lw hi : Int} {offs : Array Int} {len : Nat} {x : Int} (t : Nat) (ht : jmp pc dd = some t) (d : decode cc pc = .ok (.tableswitch dd lw hi offs, len)) (h1 : x < lw ∨ hi < x) (h2 : -2147483648 ≤ x) (h3 : x < 2147483648) : Rn call o rt ini nL cc (pc, l, .int (jI x) :: stk, h) = Rn call o rt ini nL cc (t, l, stk, h) := by
  rw [Rn_tableswitch d, jI_toInt ⟨h2, h3⟩, if_pos h1, ht]
  rfl
theorem Rn_ls {call : Nat → List Value → Hp → Option Rs} {o : Nat} {rt : Option FieldType} {ini : Bool} {nL : Nat} {cc : ByteArray} {pc : Nat} {l : Lo} {stk : List Value} {h : Hp} {dd : Int} {ps : Array (Int × Int)} {len : Nat} (x : Int) (t : Nat) (hx : (jI x).toInt = x) (hp : (ps.toList.zip (ps.toList.drop 1)).all (fun (a, next) => a.1 < next.1) = true) (d : decode cc pc = .ok (.lookupswitch dd ps, len)) (ht : jmp pc (Op.lookupswitch.offset ps.toList dd x) = some t) : Rn call o rt ini nL cc (pc, l, .int (jI x) :: stk, h) = Rn call o rt ini nL cc (t, l, stk, h) := by
  rw [Rn_lookupswitch hp d, hx, ht]
  rfl
def kne : List (Int × Int) → Int → Prop
  | [], _ => True
  | p :: r, x => ¬ p.1 = x ∧ kne r x
theorem kne_off {dd x : Int} : ∀ {ps : List (Int × Int)}, kne ps x → Op.lookupswitch.offset ps dd x = dd := by
  intro ps
  induction ps with
  | nil => intro _; rfl
  | cons p r ih =>
    intro h
    obtain ⟨a, b⟩ := p
    rw [Op.lookupswitch.offset_cons, if_neg h.1]
    exact ih h.2
theorem Rn_lsd {call : Nat → List Value → Hp → Option Rs} {o : Nat} {rt : Option FieldType} {ini : Bool} {nL : Nat} {cc : ByteArray} {pc : Nat} {l : Lo} {stk : List Value} {h : Hp} {dd : Int} {ps : Array (Int × Int)} {len : Nat} {x : Int} (t : Nat) (ht : jmp pc dd = some t) (hp : (ps.toList.zip (ps.toList.drop 1)).all (fun (a, next) => a.1 < next.1) = true) (d : decode cc pc = .ok (.lookupswitch dd ps, len)) (h1 : kne ps.toList x) (h2 : -2147483648 ≤ x) (h3 : x < 2147483648) : Rn call o rt ini nL cc (pc, l, .int (jI x) :: stk, h) = Rn call o rt ini nL cc (t, l, stk, h) := by
  rw [Rn_lookupswitch hp d, jI_toInt ⟨h2, h3⟩, kne_off h1, ht]
  rfl

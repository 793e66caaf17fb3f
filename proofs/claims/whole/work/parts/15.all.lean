/-! THE ABSTRACT MACHINE IS SOUND, last: whatever it answers, the machine does -/
theorem acp_eq {x y c : AC} {sp dp n : Int32} (h : acp x y sp dp n = some c) : ∃ n0 f n1 g, x = .inl (1, n0, .inl f) ∧ y = .inl (1, n1, .inl g) ∧ ¬ sp < 0 ∧ ¬ dp < 0 ∧ ¬ n < 0 ∧ sp.toNatClampNeg + n.toNatClampNeg ≤ n0 ∧ dp.toNatClampNeg + n.toNatClampNeg ≤ n1 ∧ c = .inl (1, n1, .inl (va_cpy f g sp.toNatClampNeg dp.toNatClampNeg n.toNatClampNeg)) := by
  unfold acp at h
  split at h
  · rename_i t0 n0 f t1 n1 g
    split at h
    · rename_i hc
      obtain ⟨rfl, rfl, h1, h2, h3, h4, h5⟩ := hc
      cases h
      exact ⟨n0, f, n1, g, rfl, rfl, Int32.not_lt.mpr h1, Int32.not_lt.mpr h2, Int32.not_lt.mpr h3, h4, h5, rfl⟩
    · cases h
  · cases h
theorem toInt_nn {z : Int32} (h : ¬ z < 0) : z.toInt = (z.toNatClampNeg : Int) := by
  have h0 : (0 : Int) ≤ z.toInt := by
    have := Int32.not_lt.mp h
    simpa using Int32.le_iff_toInt_le.mp this
  show z.toInt = ((z.toInt.toNat : Nat) : Int)
  omega
theorem copy_words : nativeFrameWords "java/lang/System" "arraycopy" 5 ≤ 40 := by decide
theorem ret_inr {call : Nat → List Value → Hp → Option Rs} {o : Nat} {rt : Option FieldType} {ini : Bool} {nL len pc : Nat} {l : Lo} {st : List Value} {h : Hp} {z : Cf ⊕ Rs} {i : Instr} (hi : i = .ireturn ∨ i = .lreturn ∨ i = .return_) (hs : istep call o rt ini nL len pc l st h i = some z) : ∃ r, z = .inr r ∧ r.2 = h := by
  rcases hi with rfl | rfl | rfl
  · simp only [istep] at hs
    repeat' first
      | (cases hs; done)
      | (cases hs; exact ⟨_, rfl, rfl⟩)
      | split at hs
  · simp only [istep] at hs
    repeat' first
      | (cases hs; done)
      | (cases hs; exact ⟨_, rfl, rfl⟩)
      | split at hs
  · simp only [istep] at hs
    repeat' first
      | (cases hs; done)
      | (cases hs; exact ⟨_, rfl, rfl⟩)
      | split at hs
theorem hle.tr {a b c : Hp} (h1 : hle a b) (h2 : hle b c) : hle a c := ⟨Nat.le_trans h1.1 h2.1, Nat.le_trans h1.2 h2.2⟩
theorem arun_mono {call : Nat → List Value → Hp → Option Rs} (hc : ∀ y av h r, call y av h = some r → hle h r.2) {o : Nat} {rt : Option FieldType} {ini : Bool} {nL : Nat} {cc : ByteArray} : ∀ (n : Nat) (cf : Cf) (r : Rs), arun call o rt ini nL cc n cf = some r → hle cf.2.2.2 r.2 := by
  intro n
  induction n with
  | zero => intro cf r h; cases h
  | succ n ih =>
    intro cf r h
    unfold arun at h
    split at h
    · cases h
    · rename_i cf' hs
      unfold stepF at hs
      split at hs
      · rename_i i len hdg
        rcases istep_gro hc hs with g | g
        · exact hle.tr g (ih cf' r h)
        · obtain ⟨r', e1, -⟩ := ret_inr g hs
          cases e1
      · cases hs
    · rename_i r' hs
      cases h
      unfold stepF at hs
      split at hs
      · rename_i i len hdg
        rcases istep_gro hc hs with g | g
        · exact g.elim
        · obtain ⟨r', e1, e2⟩ := ret_inr g hs
          cases e1
          rw [e2]
          exact hle.rf _
      · cases hs
theorem X_mono : ∀ (d y : Nat) (av : List Value) (h : Hp) (r : Rs), X d y av h = some r → hle h r.2 := by
  intro d
  induction d with
  | zero => intro y av h r hx; cases hx
  | succ d ih =>
    intro y av h r hx
    unfold X at hx
    obtain ⟨e, -, hx⟩ := Option.bind_eq_some_iff.mp hx
    split at hx
    · obtain ⟨n, hn⟩ := Rn_iff.mp hx
      exact arun_mono ih n _ r hn
    · cases hx
section AZ
variable {p : Program} {l : Launch} {e : Env} {R : Room} {s : State} {m : MethodId} {args : Array Value} {below : List Frame} {meth : Method} {c : Code} {Q : State → Prop} {o : Nat} {rt : Option FieldType} {ini : Bool} {nL : Nat} {cc : ByteArray} {G : va_G} {cy : Nat → ClassId} {oq : Option Nat} {old : Nat → Nat} {N0 L : Nat} {xs : Nat → Int32} {n0 s0 d : Nat} {len pc : Nat} {lo : Lo} {st : List Value} {h : Hp} {cz : Cf} {call : Nat → List Value → Hp → Option Rs}
/-- System.arraycopy -/
theorem ax_copy (C : Cx p R s m args meth c o rt ini nL cc G cy oq old N0 L xs d) {idx y n pp : Nat} (hq : ml o idx = some (y, 6, n, pp)) (hdg : decode cc pc = .ok (.invokestatic idx, 3))
    (hs : calls call 6 y n pc lo st h = some (.inl cz)) (k : KK p l e R s m args below meth c nL G cy oq old N0 L xs n0 s0 Q cz) : KK p l e R s m args below meth c nL G cy oq old N0 L xs n0 s0 Q (pc, lo, st, h) := by
  obtain ⟨hx, hb, hml, hown, hts, hF, hN, hini, hlk, hrt, hfr, hlc⟩ := C
  have hK := hF.2.1
  have ok := ml_ok hq
  unfold okCall at ok
  dsimp only at ok
  replace hs : (match st with
    | .int n :: .int dp :: .ref a :: .int sp :: .ref a0 :: r => if ctw r ≤ 8 then (acp (h.2.2 a0) (h.2.2 a) sp dp n).bind fun c => nx (pc + 3) lo r (h.1, h.2.1, up h.2.2 a c) else none
    | _ => none) = some (.inl cz) := hs
  split at hs <;> try (cases hs; done)
  rename_i nn dp a sp a0 r
  split at hs <;> try (cases hs; done)
  rename_i h4
  obtain ⟨cn, hv, hs⟩ := Option.bind_eq_some_iff.mp hs
  cases hs
  obtain ⟨k0, f, k1, g, hc0, hc1, b1, b2, b3, b4, b5, rfl⟩ := acp_eq hv
  intro ls H locs hl hW hS
  obtain ⟨hP, hz, hw⟩ := id hW
  obtain ⟨h80, hn0'⟩ := wf_arr hw hc0 (by omega)
  obtain ⟨h81, hn1'⟩ := wf_arr hw hc1 (by omega)
  have he0 := wsl_get (oq := oq) (ad := adr old N0) (cy := cy) h80 hn0'
  rw [hc0] at he0
  have he1 := wsl_get (oq := oq) (ad := adr old N0) (cy := cy) h81 hn1'
  rw [hc1] at he1
  have g0 : H[adr old N0 a0]? = some (vp_cell (cy 1) (k0, .inl f)) := hP (a0 - 8) _ he0
  have g1 : H[adr old N0 a]? = some (vp_cell (cy 1) (k1, .inl g)) := hP (a - 8) _ he1
  obtain ⟨-, kA, hkA, cmA, hkkA⟩ := (hK.2 1 _ rfl).1 k0 (fun j => .int (f j))
  intro T hT X
  obtain ⟨vm', X', stp⟩ := X.arraycopy hx hown (hts _ (Gat_in ok)) (hts _ nat_in) (hts _ stc_in) (hts _ sys_in) (src := adr old N0 a0) (dst := adr old N0 a) (cs := vp_cell (cy 1) (k0, .inl f)) (cd := vp_cell (cy 1) (k1, .inl g)) (srcPos := sp) (destPos := dp) (n := nn) (by rw [hT]; exact g0) (by rw [hT]; exact g1)
    (fun _ z => by cases z) (fun _ z => by cases z) (fun z => by cases z) (fun z => by cases z) hkA hkA hkkA hkkA (by simp [refKind]) b1 b2 b3
    (by rw [toInt_nn b1, toInt_nn b3]; show ¬ _ > ((arrV (cy 1) k0 (fun j => .int (f j))).slots.size : Int); rw [arrV_size]; omega)
    (by rw [toInt_nn b2, toInt_nn b3]; show ¬ _ > ((arrV (cy 1) k1 (fun j => .int (g j))).slots.size : Int); rw [arrV_size]; omega)
    (fun vm₁ _ i hi => by
      have e1 : (vp_cell (cy 1) (k0, .inl f)).slots.getD (sp.toNatClampNeg + i) .null = .int (f (sp.toNatClampNeg + i)) := by
        show (arrV (cy 1) k0 (fun j => .int (f j))).slots.getD _ _ = _
        rw [Array.getD_eq_getD_getElem?, arrV_read _ _ (by omega)]
        rfl
      rw [e1]
      exact ⟨rfl, trivial⟩)
    (g := F0 m pc ls ((.int nn :: .int dp :: .ref a :: .int sp :: .ref a0 :: r : List Value).map (cvV oq (adr old N0)))) rfl (by rw [hml]; exact hl.1) (rest := r.map (cvV oq (adr old N0))) rfl (by rw [hb]; exact hdg) (by omega) (by
      have := cat_room h4 oq (adr old N0)
      have := copy_words
      show 2 * 0 + _ + _ ≤ _
      omega)
  have e1 : copied (vp_cell (cy 1) (k0, .inl f)) (vp_cell (cy 1) (k1, .inl g)) sp dp nn = vp_cell (cy 1) (k1, .inl (va_cpy f g sp.toNatClampNeg dp.toNatClampNeg nn.toNatClampNeg)) := va_copied (fun z => .int z) (cy 1) (cy 1) f g b4
  rw [e1] at X' stp
  have hlt : adr old N0 a < H.size := (Array.getElem?_eq_some_iff.mp g1).1
  generalize hH1 : H.setIfInBounds (adr old N0 a) (vp_cell (cy 1) (k1, .inl (va_cpy f g sp.toNatClampNeg dp.toNatClampNeg nn.toNatClampNeg))) = H1
  have hheap : ((T.setVm vm').setCell (adr old N0 a) (vp_cell (cy 1) (k1, .inl (va_cpy f g sp.toNatClampNeg dp.toNatClampNeg nn.toNatClampNeg)))).heap = H1 := by rw [← hH1, ← hT]; rfl
  have z1 : H1.size = H.size := by rw [← hH1]; simp
  have q1 : H1[adr old N0 a]? = some (vp_cell (cy 1) (k1, .inl (va_cpy f g sp.toNatClampNeg dp.toNatClampNeg nn.toNatClampNeg))) := by rw [← hH1]; simp [Array.getElem?_setIfInBounds, hlt]
  have o1 : ∀ q : Nat, q ≠ adr old N0 a → H1[q]? = H[q]? := fun q hq => by rw [← hH1]; simp [Array.getElem?_setIfInBounds, Ne.symm hq]
  have hA : N0 ≤ adr old N0 a := adr_ge h81
  obtain ⟨t, a1, b1⟩ := k ls H1 _ hl (Wd_set hW h81 hn1' (c := .inl (1, k1, .inl (va_cpy f g sp.toNatClampNeg dp.toNatClampNeg nn.toNatClampNeg))) (by simp [okC]) q1 z1 o1) ⟨by rw [z1]; exact hS.1, fun q v1 v2 => by
      rw [o1 q (fun e => v2 (by rw [e]; exact hA))]
      exact hS.2.1 q v1 v2, fun q hq => by
      rcases List.mem_append.mp hq with h | h
      · exact hS.2.2 q h
      · obtain ⟨z, -, hz⟩ := List.mem_map.mp h
        rw [← hz]
        exact hA⟩ _ hheap X'
  exact ⟨t, stp t a1, b1⟩
set_option maxHeartbeats 4000000 in
theorem ax_runQ (C : Cx p R s m args meth c o rt ini nL cc G cy oq old N0 L xs d) (hC : CT l G cy oq old N0 L xs d call) (hmono : ∀ y av h r, call y av h = some r → hle h r.2) :
    ∀ (n : Nat) (cf : Cf) (r : Rs), (∀ (pc : Nat) (lo : Lo) (st : List Value) (h : Hp) (i : Instr) (len : Nat), decode cc pc = .ok (i, len) → istep call o rt ini nL len pc lo st h i = some (.inr r) → (i = .ireturn ∨ i = .lreturn ∨ i = .return_) → KK p l e R s m args below meth c nL G cy oq old N0 L xs n0 s0 Q (pc, lo, st, h)) → arun call o rt ini nL cc n cf = some r → n0 ≤ cf.2.2.2.1 → s0 ≤ cf.2.2.2.2.1 → r.2.1 - n0 ≤ R.cells → r.2.2.1 - s0 ≤ R.slots →
      KK p l e R s m args below meth c nL G cy oq old N0 L xs n0 s0 Q cf := by
  intro n
  induction n with
  | zero => intro cf r fin h; cases h
  | succ n ih =>
    intro cf r fin h hn0 hs0 hcb hsb
    obtain ⟨pc, lo, st, hp⟩ := cf
    unfold arun at h
    split at h
    · cases h
    · rename_i cf' hs
      unfold stepF at hs
      split at hs
      · rename_i i len hdg
        have hg : hle hp cf'.2.2.2 := by
          rcases istep_gro hmono hs with g | g
          · exact g
          · obtain ⟨r', e1, -⟩ := ret_inr g hs
            cases e1
        have hg2 := arun_mono hmono n cf' r h
        have k := ih cf' r fin h (Nat.le_trans hn0 hg.1) (Nat.le_trans hs0 hg.2) hcb hsb
        have hcb' : cf'.2.2.2.1 - n0 ≤ R.cells := Nat.le_trans (Nat.sub_le_sub_right hg2.1 n0) hcb
        have hsb' : cf'.2.2.2.2.1 - s0 ≤ R.slots := Nat.le_trans (Nat.sub_le_sub_right hg2.2 s0) hsb
        dsimp only at hs hdg
        cases i <;> first
          | exact absurd (show (none : Ot) = some (.inl cf') from hs) (fun z => by cases z)
          | exact ax_iload C hdg hs k
          | exact ax_lload C hdg hs k
          | exact ax_aload C hdg hs k
          | exact ax_iload_n C hdg hs k
          | exact ax_lload_n C hdg hs k
          | exact ax_aload_n C hdg hs k
          | exact ax_istore C hdg hs k
          | exact ax_istore_n C hdg hs k
          | exact ax_astore C hdg hs k
          | exact ax_astore_n C hdg hs k
          | exact ax_lstore C hdg hs k
          | exact ax_lstore_n C hdg hs k
          | exact ax_iinc C hdg hs k
          | exact ax_iconst C hdg hs k
          | exact ax_bipush C hdg hs k
          | exact ax_sipush C hdg hs k
          | exact ax_lconst C hdg hs k
          | exact ax_ldc_w C hdg hs k
          | exact ax_ldc2_w C hdg hs k
          | exact ax_ldc C hdg hs k
          | exact ax_iadd C hdg hs k
          | exact ax_isub C hdg hs k
          | exact ax_imul C hdg hs k
          | exact ax_iand C hdg hs k
          | exact ax_ior C hdg hs k
          | exact ax_ixor C hdg hs k
          | exact ax_ishl C hdg hs k
          | exact ax_ishr C hdg hs k
          | exact ax_idiv C hdg hs k
          | exact ax_irem C hdg hs k
          | exact ax_ladd C hdg hs k
          | exact ax_lsub C hdg hs k
          | exact ax_lmul C hdg hs k
          | exact ax_land C hdg hs k
          | exact ax_ldiv C hdg hs k
          | exact ax_lrem C hdg hs k
          | exact ax_iushr C hdg hs k
          | exact ax_ineg C hdg hs k
          | exact ax_i2l C hdg hs k
          | exact ax_i2c C hdg hs k
          | exact ax_l2i C hdg hs k
          | exact ax_lcmp C hdg hs k
          | exact ax_dup C hdg hs k
          | exact ax_pop C hdg hs k
          | exact ax_dup_x1 C hdg hs k
          | exact ax_dup_x2 C hdg hs k
          | exact ax_dup2 C hdg hs k
          | exact ax_goto C hdg hs k
          | exact ax_tableswitch C hdg hs k
          | exact ax_lookupswitch C hdg hs k
          | exact ax_getfield C hdg hs k
          | exact ax_putfield C hdg hs k
          | exact ax_getstatic C hdg hs k
          | exact ax_iaload C hdg hs k
          | exact ax_caload C hdg hs k
          | exact ax_baload C hdg hs k
          | exact ax_laload C hdg hs k
          | exact ax_aaload C hdg hs k
          | exact ax_iastore C hdg hs k
          | exact ax_castore C hdg hs k
          | exact ax_lastore C hdg hs k
          | exact ax_aastore C hdg hs k
          | exact ax_arraylength C hdg hs k
          | exact ax_newarray C hdg hs hn0 hs0 hcb' hsb' k
          | exact ax_anewarray C hdg hs hn0 hs0 hcb' hsb' k
          | exact ax_new C hdg hs hn0 hs0 hcb' hsb' k
          | (rename_i cnd off; cases cnd <;> first | exact ax_if_eq C hdg hs k | exact ax_if_ne C hdg hs k | exact ax_if_lt C hdg hs k | exact ax_if_ge C hdg hs k | exact ax_if_gt C hdg hs k | exact ax_if_le C hdg hs k | exact ax_icmp_eq C hdg hs k | exact ax_icmp_ne C hdg hs k | exact ax_icmp_lt C hdg hs k | exact ax_icmp_ge C hdg hs k | exact ax_icmp_gt C hdg hs k | exact ax_icmp_le C hdg hs k)
          | skip
        case invokevirtual idx =>
          simp only [istep] at hs
          by_cases hlen : ¬ len = 3
          · rw [if_neg hlen] at hs; cases hs
          obtain rfl := Decidable.not_not.mp hlen
          rw [if_pos rfl] at hs
          obtain ⟨⟨y, kind, nn, pp⟩, hq, hs⟩ := Option.bind_eq_some_iff.mp hs
          split at hs <;> try (cases hs; done)
          rename_i hkk
          exact ax_call C hC hmono hq (by have := hkk.1; simp [okV] at this; omega) (Or.inl ⟨hkk.1, hkk.2, hdg⟩) hs hn0 hs0 hcb' hsb' k
        case invokestatic idx =>
          simp only [istep] at hs
          by_cases hlen : ¬ len = 3
          · rw [if_neg hlen] at hs; cases hs
          obtain rfl := Decidable.not_not.mp hlen
          rw [if_pos rfl] at hs
          obtain ⟨⟨y, kind, nn, pp⟩, hq, hs⟩ := Option.bind_eq_some_iff.mp hs
          split at hs <;> try (cases hs; done)
          rename_i hkk
          by_cases h6 : kind = 6
          · subst h6
            exact ax_copy C hq hdg hs k
          · exact ax_call C hC hmono hq (by have := hkk; simp [okS] at this; omega) (Or.inr (Or.inl ⟨hkk, hdg⟩)) hs hn0 hs0 hcb' hsb' k
        case invokespecial idx =>
          simp only [istep] at hs
          by_cases hlen : ¬ len = 3
          · rw [if_neg hlen] at hs; cases hs
          obtain rfl := Decidable.not_not.mp hlen
          rw [if_pos rfl] at hs
          obtain ⟨⟨y, kind, nn, pp⟩, hq, hs⟩ := Option.bind_eq_some_iff.mp hs
          split at hs <;> try (cases hs; done)
          rename_i hkk
          by_cases h7 : kind = 7
          · subst h7
            exact ax_objinit C hq hdg hs k
          · exact ax_call C hC hmono hq (by have := hkk.1; simp [okI] at this; omega) (Or.inr (Or.inr ⟨hkk.1, hkk.2.resolve_left h7, hdg⟩)) hs hn0 hs0 hcb' hsb' k
        case ireturn => obtain ⟨r', e1, -⟩ := ret_inr (Or.inl rfl) hs; cases e1
        case lreturn => obtain ⟨r', e1, -⟩ := ret_inr (Or.inr (Or.inl rfl)) hs; cases e1
        case return_ => obtain ⟨r', e1, -⟩ := ret_inr (Or.inr (Or.inr rfl)) hs; cases e1
      · cases hs
    · rename_i r' hs
      cases h
      unfold stepF at hs
      split at hs
      · rename_i i len hdg
        dsimp only at hs hdg
        rcases istep_gro hmono hs with g | g
        · exact g.elim
        · exact fin _ _ _ _ _ _ hdg hs g
      · cases hs
theorem ax_run (C : Cx p R s m args meth c o rt ini nL cc G cy oq old N0 L xs d) (hC : CT l G cy oq old N0 L xs d call) (hmono : ∀ y av h r, call y av h = some r → hle h r.2)
    (n : Nat) (cf : Cf) (r : Rs) (h : arun call o rt ini nL cc n cf = some r) (hn0 : n0 ≤ cf.2.2.2.1) (hs0 : s0 ≤ cf.2.2.2.2.1) (hcb : r.2.1 - n0 ≤ R.cells) (hsb : r.2.2.1 - s0 ≤ R.slots) :
      KK p l e R s m args below meth c nL G cy oq old N0 L xs n0 s0 (MQ below (QC G cy oq old N0 L xs r) args s (r.2.1 - n0) (r.2.2.1 - s0) (fun q => N0 ≤ q)) cf := by
  refine ax_runQ C hC hmono n cf r ?_ h hn0 hs0 hcb hsb
  intro pc lo st h i len hdg hs g
  obtain ⟨hx, hb, hml, hown, hts, hF, hN, hini, hlk, hrt, hfr, hlc⟩ := C
  rcases g with rfl | rfl | rfl
  · simp only [istep] at hs
    by_cases hlen : ¬ len = 1
    · rw [if_neg hlen] at hs; cases hs
    obtain rfl := Decidable.not_not.mp hlen
    rw [if_pos rfl] at hs
    split at hs <;> try (cases hs; done)
    rename_i ty v hrt2
    split at hs <;> try (cases hs; done)
    rename_i hnr
    cases hs
    intro ls H locs hl hW hS
    exact W.zret hx hb hrt hnr (fun t ht hWm => ⟨rfl, by rw [ht]; exact hW, hS.F ht⟩) hS.2.2 hdg hlk
  · simp only [istep] at hs
    by_cases hlen : ¬ len = 1
    · rw [if_neg hlen] at hs; cases hs
    obtain rfl := Decidable.not_not.mp hlen
    rw [if_pos rfl] at hs
    split at hs <;> try (cases hs; done)
    cases hs
    intro ls H locs hl hW hS
    exact W.lret hx hb hrt (fun t ht hWm => ⟨rfl, by rw [ht]; exact hW, hS.F ht⟩) hS.2.2 hdg hlk
  · simp only [istep] at hs
    by_cases hlen : ¬ len = 1
    · rw [if_neg hlen] at hs; cases hs
    obtain rfl := Decidable.not_not.mp hlen
    rw [if_pos rfl] at hs
    split at hs <;> try (cases hs; done)
    cases hs
    intro ls H locs hl hW hS
    exact W.vret hx hb hrt (fun t ht hWm => ⟨rfl, by rw [ht]; exact hW, hS.F ht⟩) hS.2.2 hdg hlk
end AZ
theorem lv_args_cv (oq : Option Nat) (ad : Nat → Nat) : ∀ (i : Nat) (av : List Value), lv_args i (av.map (cvV oq ad)) = cvL oq ad (lv_args i av) := by
  intro i av
  induction av generalizing i with
  | nil => rfl
  | cons v r ih =>
    simp only [List.map_cons, lv_args, cvL]
    rw [cv_cat, ih]
    rfl
theorem lg_sl_cv (oq : Option Nat) (ad : Nat → Nat) (av : List Value) : (lg_sl (av.map (cvV oq ad))).length = (lg_sl av).length := by
  induction av with
  | nil => rfl
  | cons v r ih =>
    simp only [lg_sl, List.map_cons, List.flatMap_cons, List.length_append] at ih ⊢
    rw [cv_cat, ih]
    rcases lv_cat v with h | h <;> simp [h]
/-- Met of a walk, for a method that no row of the machine's own runs -/
theorem ax_ofW {l : Launch} {y : MethodName} {ws ws' : List Cond} {rm : Room} {Pc : Array Value → State → Prop} {Qc : Array Value → State → Outcome → State → Prop} {mc ms : Nat} {free : Addr → Prop} {cc : ByteArray} {maxL : Nat} {ret : Option FieldType}
    (hy : plainFor y = true) (hw : ws = Cond.code y cc maxL ret :: ws')
    (body : ∀ p e s m args below meth c s₁, BodyLoose p l y (headSpec ws rm) cc maxL ret e s m args below meth c s₁ → c.maxLocals = maxL → Pc args s →
      W p l e (headSpec ws rm).room s m args below meth c s.heap [] 0 0 (MQ below Qc args s mc ms free) (entryFrame m args maxL)) : Met l y ws rm Pc Qc mc ms free := by
  refine MetFree.of_bodySF (code := cc) (maxLocals := maxL) (ret := ret) hy ?_ ?_
  · intro args s m h hn
    obtain ⟨meth, c, h1, h2, h3, h4, h5, h6, -, -⟩ := Cond.code_spec hn (atoms_spec (ws := ws) h _ (by rw [hw]; exact List.mem_cons_self))
    exact ⟨meth, c, h1, h2, h3, h4, h5, h6⟩
  · intro p e s m args below meth c s₁ B hml hP _
    have hh0 : s₁.heap = s.heap := by rw [B.state]; rfl
    obtain ⟨t, a1, o, b1, b2, b3⟩ := body p e s m args below meth c s₁ B hml hP s₁ hh0 (Stand.of_body B)
    exact ⟨t, o, a1, b1, b2, ⟨b3.1, b3.2⟩⟩
/-- WHATEVER THE ABSTRACT MACHINE ANSWERS, THE MACHINE DOES -/
theorem ax_sound (l : Launch) (G : va_G) (cy : Nat → ClassId) (oq : Option Nat) (old : Nat → Nat) (N0 L : Nat) (xs : Nat → Int32) : ∀ d, CT l G cy oq old N0 L xs d (X d) := by
  intro d
  induction d with
  | zero => intro y av h r hx; cases hx
  | succ d ih =>
    intro y av h r hx ee he hy
    unfold X at hx
    rw [he] at hx
    replace hx : (if (lg_sl av).length ≤ ee.2.2.2.1 then Rn (X d) ee.2.1 ee.2.2.2.2.1 ee.2.2.2.2.2.2.1 ee.2.2.2.1 ee.2.2.1 (0, lv_args 0 av, [], h) else none) = some r := hx
    split at hx <;> try (cases hx; done)
    rename_i hlen
    obtain ⟨n, hn⟩ := Rn_iff.mp hx
    have okm := okM_at he hy
    simp only [okM, Bool.and_eq_true, decide_eq_true_eq] at okm
    obtain ⟨⟨⟨⟨⟨⟨⟨om1, om2⟩, om3⟩, om4⟩, om5⟩, om6⟩, om7⟩, om8⟩ := okm
    refine ax_ofW (cc := ee.2.2.1) (maxL := ee.2.2.2.1) (ret := ee.2.2.2.2.1) (plM_for om2) rfl ?_
    intro p e s m args below meth c s₁ B hml hv
    obtain ⟨rfl, hN, hW, hF⟩ := hv
    have hown : s.vm.findClass ee.1.cls = some m.cls := findClass_of_methodNamed B.named
    have hts := atoms_spec (ws := Cond.code ee.1 ee.2.2.1 ee.2.2.2.1 ee.2.2.2.2.1 :: Gl) B.pre
    have C : Cx p (rmD (d + 1) (r.2.1 - h.1) (r.2.2.1 - h.2.1)) s m (av.map (cvV oq (adr old N0))).toArray meth c ee.2.1 ee.2.2.2.2.1 ee.2.2.2.2.2.2.1 ee.2.2.2.1 ee.2.2.1 G cy oq old N0 L xs d :=
      ⟨B.exec, B.bytes, hml, by rw [← om1]; exact hown, fun w hw => hts w (List.mem_cons_of_mem _ hw), hF, hN, fun hi => by
        rw [om8] at hi
        rw [(name_of_methodNamed B.named B.method).1]
        exact of_decide_eq_true hi, B.notSynchronized, B.returns, Nat.le_refl _, Nat.le_refl _⟩
    have k := ax_run (l := l) (e := e) (below := below) (n0 := h.1) (s0 := h.2.1) C ih (X_mono d) n _ r hn (Nat.le_refl _) (Nat.le_refl _) (Nat.le_refl _) (Nat.le_refl _)
    rw [lg_entry_eq]
    have hl0 := lv_entry (av.map (cvV oq (adr old N0))) (n := ee.2.2.2.1) (by rw [lg_sl_cv]; exact hlen)
    rw [lv_args_cv] at hl0
    have := k _ s.heap [] hl0 hW va_S.rf
    dsimp only at this
    rw [Nat.sub_self, Nat.sub_self] at this
    exact this

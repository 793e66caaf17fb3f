/-! THE ABSTRACT MACHINE IS SOUND, fourth: the facts that stay, and the instructions that touch no cell -/
def Fx (G : va_G) (cy : Nat → ClassId) (oq : Option Nat) (old : Nat → Nat) (N0 L : Nat) (xs : Nat → Int32) (U : State) (H : Heap) : Prop :=
  (∀ w ∈ nestW, va_Nw w U) ∧ va_K G vwCl (tysL cy) U ∧ va_AO RX7 U ∧ (va_X (old 0) L xs U H ∧ old 0 < H.size ∧ ¬ N0 ≤ old 0) ∧
  (va_Z "MoodBread" "MOST_OF" "[I" (.ref (old 1)) (fun q => N0 ≤ q) U H ∧ va_T .int (old 1) 5 (fun j => .int (mof j)) (fun q => N0 ≤ q) U H) ∧
  ((∀ i, i < 3 → vk_R RX6 (stI.getD i 0) (stT.getD i "") (old (2 + i)) U) ∧ vk_S 3 stL stB (fun i => old (2 + i)) (fun i => old (5 + i)) (fun q => N0 ≤ q) U H) ∧
  va_Z "java/lang/String" "COMPACT_STRINGS" "Z" (.int 1) (fun q => N0 ≤ q) U H ∧ va_Z "jdk/internal/util/Preconditions" "SIOOBE_FORMATTER" "Ljava/util/function/BiFunction;" (va_rf oq) (fun q => N0 ≤ q) U H
theorem Fx.same {G : va_G} {cy : Nat → ClassId} {oq : Option Nat} {old : Nat → Nat} {N0 L : Nat} {xs : Nat → Int32} {U U' : State} {H : Heap} (hv : U'.vm = U.vm) (h : Fx G cy oq old N0 L xs U H) : Fx G cy oq old N0 L xs U' H := by
  obtain ⟨h1, h2, h3, ⟨h4, h5, h6⟩, ⟨h7, h8⟩, ⟨h9, h10⟩, h11, h12⟩ := h
  have ha : U.vm.Alike U'.vm := by rw [hv]; exact Vm.Alike.refl _
  exact ⟨fun w hw => va_Nw.same (nest_kind w hw).1 hv.symm (h1 w hw), va_K.moved ha h2, va_AO.moved ha h3, ⟨va_X.moved ha h4, h5, h6⟩, ⟨va_Z.moved ha h7, va_T.moved ha h8⟩, ⟨fun i hi => vk_R.same hv (h9 i hi), vk_S.moved ha h10⟩, va_Z.moved ha h11, va_Z.moved ha h12⟩
theorem Fx.warm {G : va_G} {cy : Nat → ClassId} {oq : Option Nat} {old : Nat → Nat} {N0 L : Nat} {xs : Nat → Int32} {s U : State} {H : Heap} {locs : List Loc} (hW : s.WarmedH U.vm) (hS : va_S (fun q => N0 ≤ q) s.heap H locs) (h : Fx G cy oq old N0 L xs s s.heap) : Fx G cy oq old N0 L xs U H := by
  obtain ⟨h1, h2, h3, ⟨h4, h5, h6⟩, ⟨h7, h8⟩, ⟨h9, h10⟩, h11, h12⟩ := h
  have ha : s.vm.Alike U.vm := hW.alike
  refine ⟨fun w hw => ?_, va_K.moved ha h2, va_AO.moved ha h3, ⟨(va_X.moved ha h4).kept (hS.2.1 _ h5 h6), Nat.lt_of_lt_of_le h5 hS.1, h6⟩, ⟨(va_Z.moved ha h7).kept hS.2.1, (va_T.moved ha h8).kept hS.2.1⟩, ⟨fun i hi => vk_R.warm hW (h9 i hi), (vk_S.moved ha h10).kept hS.2.1⟩, (va_Z.moved ha h11).kept hS.2.1, (va_Z.moved ha h12).kept hS.2.1⟩
  rcases (nest_kind w hw).2 with ⟨a, i, x, hh, rfl⟩ | ⟨a, i, b, n, d, hh, rfl⟩
  · exact va_Nw.warmM hW (h1 _ hw)
  · exact va_Nw.warmF hW (h1 _ hw)
/-- what holds all through a method's run -/
def Cx (p : Program) (R : Room) (s : State) (m : MethodId) (args : Array Value) (meth : Method) (c : Code) (o : Nat) (rt : Option FieldType) (ini : Bool) (nL : Nat) (cc : ByteArray) (G : va_G) (cy : Nat → ClassId) (oq : Option Nat) (old : Nat → Nat) (N0 L : Nat) (xs : Nat → Int32) (d : Nat) : Prop :=
  p.tables.exec = Jvm.exec ∧ c.code = cc ∧ c.maxLocals = nL ∧ s.vm.findClass (ownS o) = some m.cls ∧ (∀ w ∈ Gl, w.before args s = true) ∧ Fx G cy oq old N0 L xs s s.heap ∧ N0 ≤ s.heap.size ∧ (ini = true → meth.name = "<init>") ∧ meth.locks = false ∧ meth.sig.returnType = rt ∧ d + 1 ≤ R.frames ∧ 60 * (d + 1) ≤ R.locals
/-- from a configuration the machine comes to Q -/
def KK (p : Program) (l : Launch) (e : Env) (R : Room) (s : State) (m : MethodId) (args : Array Value) (below : List Frame) (meth : Method) (c : Code) (nL : Nat) (G : va_G) (cy : Nat → ClassId) (oq : Option Nat) (old : Nat → Nat) (N0 L : Nat) (xs : Nat → Int32) (n0 s0 : Nat) (Q : State → Prop) (cf : Cf) : Prop :=
  ∀ (ls : Array Slot) (H : Heap) (locs : List Loc), lv_has ls nL (cvL oq (adr old N0) cf.2.1) → Wd G cy oq old N0 L xs cf.2.2.2 H → va_S (fun q => N0 ≤ q) s.heap H locs →
    W p l e R s m args below meth c H locs (cf.2.2.2.1 - n0) (cf.2.2.2.2.1 - s0) Q (F0 m cf.1 ls (cf.2.2.1.map (cvV oq (adr old N0))))
def hle (h h' : Hp) : Prop := h.1 ≤ h'.1 ∧ h.2.1 ≤ h'.2.1
theorem hle.rf (h : Hp) : hle h h := ⟨Nat.le_refl _, Nat.le_refl _⟩
section AX
variable {p : Program} {l : Launch} {e : Env} {R : Room} {s : State} {m : MethodId} {args : Array Value} {below : List Frame} {meth : Method} {c : Code} {Q : State → Prop} {o : Nat} {rt : Option FieldType} {ini : Bool} {nL : Nat} {cc : ByteArray} {G : va_G} {cy : Nat → ClassId} {oq : Option Nat} {old : Nat → Nat} {N0 L : Nat} {xs : Nat → Int32} {n0 s0 d : Nat} {len pc : Nat} {lo : Lo} {st : List Value} {h : Hp} {cz : Cf} {call : Nat → List Value → Hp → Option Rs}
theorem ax_iload (C : Cx p R s m args meth c o rt ini nL cc G cy oq old N0 L xs d) {i : Nat} (hdg : decode cc pc = .ok (.iload i, len)) (hs : istep call o rt ini nL len pc lo st h (.iload i) = some (.inl cz)) (k : KK p l e R s m args below meth c nL G cy oq old N0 L xs n0 s0 Q cz) : KK p l e R s m args below meth c nL G cy oq old N0 L xs n0 s0 Q (pc, lo, st, h) := by
  obtain ⟨hx, hb, hml, hown, hts, hF, hN, hini, hlk, hrt, hfr, hlc⟩ := C
  simp only [istep] at hs
  by_cases hl : ¬ len = 2
  · rw [if_neg hl] at hs; cases hs
  rw [if_pos (Decidable.not_not.mp hl)] at hs
  obtain rfl := Decidable.not_not.mp hl
  clear hl
  unfold ildv at hs
  obtain ⟨v, hv, hs⟩ := Option.bind_eq_some_iff.mp hs
  cases v <;> try (cases hs; done)
  rename_i x
  cases hs
  intro ls H locs hl hW hS
  exact lv_iload hx hb hdg (lk_at hl hv) (k ls H locs hl hW hS)

theorem ax_lload (C : Cx p R s m args meth c o rt ini nL cc G cy oq old N0 L xs d) {i : Nat} (hdg : decode cc pc = .ok (.lload i, len)) (hs : istep call o rt ini nL len pc lo st h (.lload i) = some (.inl cz)) (k : KK p l e R s m args below meth c nL G cy oq old N0 L xs n0 s0 Q cz) : KK p l e R s m args below meth c nL G cy oq old N0 L xs n0 s0 Q (pc, lo, st, h) := by
  obtain ⟨hx, hb, hml, hown, hts, hF, hN, hini, hlk, hrt, hfr, hlc⟩ := C
  simp only [istep] at hs
  by_cases hl : ¬ len = 2
  · rw [if_neg hl] at hs; cases hs
  rw [if_pos (Decidable.not_not.mp hl)] at hs
  obtain rfl := Decidable.not_not.mp hl
  clear hl
  unfold lldv at hs
  obtain ⟨v, hv, hs⟩ := Option.bind_eq_some_iff.mp hs
  cases v <;> try (cases hs; done)
  rename_i x
  cases hs
  intro ls H locs hl hW hS
  exact lv_lload hx hb hdg (lk_at hl hv) (k ls H locs hl hW hS)

theorem ax_aload (C : Cx p R s m args meth c o rt ini nL cc G cy oq old N0 L xs d) {i : Nat} (hdg : decode cc pc = .ok (.aload i, len)) (hs : istep call o rt ini nL len pc lo st h (.aload i) = some (.inl cz)) (k : KK p l e R s m args below meth c nL G cy oq old N0 L xs n0 s0 Q cz) : KK p l e R s m args below meth c nL G cy oq old N0 L xs n0 s0 Q (pc, lo, st, h) := by
  obtain ⟨hx, hb, hml, hown, hts, hF, hN, hini, hlk, hrt, hfr, hlc⟩ := C
  simp only [istep] at hs
  by_cases hl : ¬ len = 2
  · rw [if_neg hl] at hs; cases hs
  rw [if_pos (Decidable.not_not.mp hl)] at hs
  obtain rfl := Decidable.not_not.mp hl
  clear hl
  unfold aldv at hs
  obtain ⟨v, hv, hs⟩ := Option.bind_eq_some_iff.mp hs
  cases v <;> try (cases hs; done)
  rename_i x
  cases hs
  intro ls H locs hl hW hS
  exact lv_aload hx hb hdg (lk_at hl hv) (k ls H locs hl hW hS)

theorem ax_iload_n (C : Cx p R s m args meth c o rt ini nL cc G cy oq old N0 L xs d) {i : Fin 4} (hdg : decode cc pc = .ok (.iload_n i, len)) (hs : istep call o rt ini nL len pc lo st h (.iload_n i) = some (.inl cz)) (k : KK p l e R s m args below meth c nL G cy oq old N0 L xs n0 s0 Q cz) : KK p l e R s m args below meth c nL G cy oq old N0 L xs n0 s0 Q (pc, lo, st, h) := by
  obtain ⟨hx, hb, hml, hown, hts, hF, hN, hini, hlk, hrt, hfr, hlc⟩ := C
  simp only [istep] at hs
  by_cases hl : ¬ len = 1
  · rw [if_neg hl] at hs; cases hs
  rw [if_pos (Decidable.not_not.mp hl)] at hs
  obtain rfl := Decidable.not_not.mp hl
  clear hl
  unfold ildv at hs
  obtain ⟨v, hv, hs⟩ := Option.bind_eq_some_iff.mp hs
  cases v <;> try (cases hs; done)
  rename_i x
  cases hs
  intro ls H locs hl hW hS
  exact lv_iload_n hx hb hdg rfl (lk_at hl hv) (k ls H locs hl hW hS)

theorem ax_lload_n (C : Cx p R s m args meth c o rt ini nL cc G cy oq old N0 L xs d) {i : Fin 4} (hdg : decode cc pc = .ok (.lload_n i, len)) (hs : istep call o rt ini nL len pc lo st h (.lload_n i) = some (.inl cz)) (k : KK p l e R s m args below meth c nL G cy oq old N0 L xs n0 s0 Q cz) : KK p l e R s m args below meth c nL G cy oq old N0 L xs n0 s0 Q (pc, lo, st, h) := by
  obtain ⟨hx, hb, hml, hown, hts, hF, hN, hini, hlk, hrt, hfr, hlc⟩ := C
  simp only [istep] at hs
  by_cases hl : ¬ len = 1
  · rw [if_neg hl] at hs; cases hs
  rw [if_pos (Decidable.not_not.mp hl)] at hs
  obtain rfl := Decidable.not_not.mp hl
  clear hl
  unfold lldv at hs
  obtain ⟨v, hv, hs⟩ := Option.bind_eq_some_iff.mp hs
  cases v <;> try (cases hs; done)
  rename_i x
  cases hs
  intro ls H locs hl hW hS
  exact lv_lload_n hx hb hdg rfl (lk_at hl hv) (k ls H locs hl hW hS)

theorem ax_aload_n (C : Cx p R s m args meth c o rt ini nL cc G cy oq old N0 L xs d) {i : Fin 4} (hdg : decode cc pc = .ok (.aload_n i, len)) (hs : istep call o rt ini nL len pc lo st h (.aload_n i) = some (.inl cz)) (k : KK p l e R s m args below meth c nL G cy oq old N0 L xs n0 s0 Q cz) : KK p l e R s m args below meth c nL G cy oq old N0 L xs n0 s0 Q (pc, lo, st, h) := by
  obtain ⟨hx, hb, hml, hown, hts, hF, hN, hini, hlk, hrt, hfr, hlc⟩ := C
  simp only [istep] at hs
  by_cases hl : ¬ len = 1
  · rw [if_neg hl] at hs; cases hs
  rw [if_pos (Decidable.not_not.mp hl)] at hs
  obtain rfl := Decidable.not_not.mp hl
  clear hl
  unfold aldv at hs
  obtain ⟨v, hv, hs⟩ := Option.bind_eq_some_iff.mp hs
  cases v <;> try (cases hs; done)
  rename_i x
  cases hs
  intro ls H locs hl hW hS
  exact lv_aload_n hx hb hdg rfl (lk_at hl hv) (k ls H locs hl hW hS)

theorem ax_istore (C : Cx p R s m args meth c o rt ini nL cc G cy oq old N0 L xs d) {i : Nat} (hdg : decode cc pc = .ok (.istore i, len)) (hs : istep call o rt ini nL len pc lo st h (.istore i) = some (.inl cz)) (k : KK p l e R s m args below meth c nL G cy oq old N0 L xs n0 s0 Q cz) : KK p l e R s m args below meth c nL G cy oq old N0 L xs n0 s0 Q (pc, lo, st, h) := by
  obtain ⟨hx, hb, hml, hown, hts, hF, hN, hini, hlk, hrt, hfr, hlc⟩ := C
  simp only [istep] at hs
  by_cases hl : ¬ len = 2
  · rw [if_neg hl] at hs; cases hs
  rw [if_pos (Decidable.not_not.mp hl)] at hs
  obtain rfl := Decidable.not_not.mp hl
  clear hl
  unfold istv at hs
  split at hs <;> try (cases hs; done)
  rename_i x r
  by_cases hn : ¬ (i < nL)
  · rw [if_neg hn] at hs; cases hs
  replace hn := Decidable.not_not.mp hn
  rw [if_pos hn] at hs
  cases hs
  intro ls H locs hl hW hS
  exact lv_istore hx hb hdg hl hn (congrArg _ (cvL_rm1 oq (adr old N0) _ lo)) (fun ls1 hl1 => k ls1 H locs hl1 hW hS)

theorem ax_istore_n (C : Cx p R s m args meth c o rt ini nL cc G cy oq old N0 L xs d) {i : Fin 4} (hdg : decode cc pc = .ok (.istore_n i, len)) (hs : istep call o rt ini nL len pc lo st h (.istore_n i) = some (.inl cz)) (k : KK p l e R s m args below meth c nL G cy oq old N0 L xs n0 s0 Q cz) : KK p l e R s m args below meth c nL G cy oq old N0 L xs n0 s0 Q (pc, lo, st, h) := by
  obtain ⟨hx, hb, hml, hown, hts, hF, hN, hini, hlk, hrt, hfr, hlc⟩ := C
  simp only [istep] at hs
  by_cases hl : ¬ len = 1
  · rw [if_neg hl] at hs; cases hs
  rw [if_pos (Decidable.not_not.mp hl)] at hs
  obtain rfl := Decidable.not_not.mp hl
  clear hl
  unfold istv at hs
  split at hs <;> try (cases hs; done)
  rename_i x r
  by_cases hn : ¬ ((i : Nat) < nL)
  · rw [if_neg hn] at hs; cases hs
  replace hn := Decidable.not_not.mp hn
  rw [if_pos hn] at hs
  cases hs
  intro ls H locs hl hW hS
  exact lv_istore_n hx hb hdg rfl hl hn (congrArg _ (cvL_rm1 oq (adr old N0) _ lo)) (fun ls1 hl1 => k ls1 H locs hl1 hW hS)

theorem ax_astore (C : Cx p R s m args meth c o rt ini nL cc G cy oq old N0 L xs d) {i : Nat} (hdg : decode cc pc = .ok (.astore i, len)) (hs : istep call o rt ini nL len pc lo st h (.astore i) = some (.inl cz)) (k : KK p l e R s m args below meth c nL G cy oq old N0 L xs n0 s0 Q cz) : KK p l e R s m args below meth c nL G cy oq old N0 L xs n0 s0 Q (pc, lo, st, h) := by
  obtain ⟨hx, hb, hml, hown, hts, hF, hN, hini, hlk, hrt, hfr, hlc⟩ := C
  simp only [istep] at hs
  by_cases hl : ¬ len = 2
  · rw [if_neg hl] at hs; cases hs
  rw [if_pos (Decidable.not_not.mp hl)] at hs
  obtain rfl := Decidable.not_not.mp hl
  clear hl
  unfold astv at hs
  split at hs <;> try (cases hs; done)
  rename_i x r
  by_cases hn : ¬ (i < nL)
  · rw [if_neg hn] at hs; cases hs
  replace hn := Decidable.not_not.mp hn
  rw [if_pos hn] at hs
  cases hs
  intro ls H locs hl hW hS
  exact lv_astore hx hb hdg hl hn (congrArg _ (cvL_rm1 oq (adr old N0) _ lo)) (fun ls1 hl1 => k ls1 H locs hl1 hW hS)

theorem ax_astore_n (C : Cx p R s m args meth c o rt ini nL cc G cy oq old N0 L xs d) {i : Fin 4} (hdg : decode cc pc = .ok (.astore_n i, len)) (hs : istep call o rt ini nL len pc lo st h (.astore_n i) = some (.inl cz)) (k : KK p l e R s m args below meth c nL G cy oq old N0 L xs n0 s0 Q cz) : KK p l e R s m args below meth c nL G cy oq old N0 L xs n0 s0 Q (pc, lo, st, h) := by
  obtain ⟨hx, hb, hml, hown, hts, hF, hN, hini, hlk, hrt, hfr, hlc⟩ := C
  simp only [istep] at hs
  by_cases hl : ¬ len = 1
  · rw [if_neg hl] at hs; cases hs
  rw [if_pos (Decidable.not_not.mp hl)] at hs
  obtain rfl := Decidable.not_not.mp hl
  clear hl
  unfold astv at hs
  split at hs <;> try (cases hs; done)
  rename_i x r
  by_cases hn : ¬ ((i : Nat) < nL)
  · rw [if_neg hn] at hs; cases hs
  replace hn := Decidable.not_not.mp hn
  rw [if_pos hn] at hs
  cases hs
  intro ls H locs hl hW hS
  exact lv_astore_n hx hb hdg rfl hl hn (congrArg _ (cvL_rm1 oq (adr old N0) _ lo)) (fun ls1 hl1 => k ls1 H locs hl1 hW hS)

theorem ax_lstore (C : Cx p R s m args meth c o rt ini nL cc G cy oq old N0 L xs d) {i : Nat} (hdg : decode cc pc = .ok (.lstore i, len)) (hs : istep call o rt ini nL len pc lo st h (.lstore i) = some (.inl cz)) (k : KK p l e R s m args below meth c nL G cy oq old N0 L xs n0 s0 Q cz) : KK p l e R s m args below meth c nL G cy oq old N0 L xs n0 s0 Q (pc, lo, st, h) := by
  obtain ⟨hx, hb, hml, hown, hts, hF, hN, hini, hlk, hrt, hfr, hlc⟩ := C
  simp only [istep] at hs
  by_cases hl : ¬ len = 2
  · rw [if_neg hl] at hs; cases hs
  rw [if_pos (Decidable.not_not.mp hl)] at hs
  obtain rfl := Decidable.not_not.mp hl
  clear hl
  unfold lstv at hs
  split at hs <;> try (cases hs; done)
  rename_i x r
  by_cases hn : ¬ (i + 1 < nL)
  · rw [if_neg hn] at hs; cases hs
  replace hn := Decidable.not_not.mp hn
  rw [if_pos hn] at hs
  cases hs
  intro ls H locs hl hW hS
  exact lv_lstore hx hb hdg hl hn (congrArg _ (cvL_rm2 oq (adr old N0) _ lo)) (fun ls1 hl1 => k ls1 H locs hl1 hW hS)

theorem ax_lstore_n (C : Cx p R s m args meth c o rt ini nL cc G cy oq old N0 L xs d) {i : Fin 4} (hdg : decode cc pc = .ok (.lstore_n i, len)) (hs : istep call o rt ini nL len pc lo st h (.lstore_n i) = some (.inl cz)) (k : KK p l e R s m args below meth c nL G cy oq old N0 L xs n0 s0 Q cz) : KK p l e R s m args below meth c nL G cy oq old N0 L xs n0 s0 Q (pc, lo, st, h) := by
  obtain ⟨hx, hb, hml, hown, hts, hF, hN, hini, hlk, hrt, hfr, hlc⟩ := C
  simp only [istep] at hs
  by_cases hl : ¬ len = 1
  · rw [if_neg hl] at hs; cases hs
  rw [if_pos (Decidable.not_not.mp hl)] at hs
  obtain rfl := Decidable.not_not.mp hl
  clear hl
  unfold lstv at hs
  split at hs <;> try (cases hs; done)
  rename_i x r
  by_cases hn : ¬ ((i : Nat) + 1 < nL)
  · rw [if_neg hn] at hs; cases hs
  replace hn := Decidable.not_not.mp hn
  rw [if_pos hn] at hs
  cases hs
  intro ls H locs hl hW hS
  exact lv_lstore_n hx hb hdg rfl hl hn (congrArg _ (cvL_rm2 oq (adr old N0) _ lo)) (fun ls1 hl1 => k ls1 H locs hl1 hW hS)

theorem ax_iinc (C : Cx p R s m args meth c o rt ini nL cc G cy oq old N0 L xs d) {i : Nat} {n : Int} (hdg : decode cc pc = .ok (.iinc i n, len)) (hs : istep call o rt ini nL len pc lo st h (.iinc i n) = some (.inl cz)) (k : KK p l e R s m args below meth c nL G cy oq old N0 L xs n0 s0 Q cz) : KK p l e R s m args below meth c nL G cy oq old N0 L xs n0 s0 Q (pc, lo, st, h) := by
  obtain ⟨hx, hb, hml, hown, hts, hF, hN, hini, hlk, hrt, hfr, hlc⟩ := C
  simp only [istep] at hs
  by_cases hl : ¬ (len = 3 ∧ i < nL)
  · rw [if_neg hl] at hs; cases hs
  replace hl := Decidable.not_not.mp hl
  rw [if_pos hl] at hs
  obtain ⟨hl, hn⟩ := hl
  subst hl
  obtain ⟨v, hv, hs⟩ := Option.bind_eq_some_iff.mp hs
  cases v <;> try (cases hs; done)
  rename_i x
  cases hs
  intro ls H locs hl hW hS
  obtain ⟨q, hq⟩ := List.getElem?_of_mem (show (i, cvV oq (adr old N0) (.int x)) ∈ cvL oq (adr old N0) lo from List.mem_map.mpr ⟨(i, .int x), lk_mem hv, rfl⟩)
  exact lv_iinc hx hb hdg hl hq rfl hn (congrArg _ (cvL_rm1 oq (adr old N0) _ lo)) (fun ls1 hl1 => k ls1 H locs hl1 hW hS)

theorem ax_iconst (C : Cx p R s m args meth c o rt ini nL cc G cy oq old N0 L xs d) {n : Int} (hdg : decode cc pc = .ok (.iconst n, len)) (hs : istep call o rt ini nL len pc lo st h (.iconst n) = some (.inl cz)) (k : KK p l e R s m args below meth c nL G cy oq old N0 L xs n0 s0 Q cz) : KK p l e R s m args below meth c nL G cy oq old N0 L xs n0 s0 Q (pc, lo, st, h) := by
  obtain ⟨hx, hb, hml, hown, hts, hF, hN, hini, hlk, hrt, hfr, hlc⟩ := C
  simp only [istep] at hs
  by_cases hl : ¬ len = 1
  · rw [if_neg hl] at hs; cases hs
  rw [if_pos (Decidable.not_not.mp hl)] at hs
  obtain rfl := Decidable.not_not.mp hl
  clear hl
  cases hs
  intro ls H locs hl hW hS
  exact lv_iconst hx hb hdg rfl (k ls H locs hl hW hS)

theorem ax_bipush (C : Cx p R s m args meth c o rt ini nL cc G cy oq old N0 L xs d) {n : Int} (hdg : decode cc pc = .ok (.bipush n, len)) (hs : istep call o rt ini nL len pc lo st h (.bipush n) = some (.inl cz)) (k : KK p l e R s m args below meth c nL G cy oq old N0 L xs n0 s0 Q cz) : KK p l e R s m args below meth c nL G cy oq old N0 L xs n0 s0 Q (pc, lo, st, h) := by
  obtain ⟨hx, hb, hml, hown, hts, hF, hN, hini, hlk, hrt, hfr, hlc⟩ := C
  simp only [istep] at hs
  by_cases hl : ¬ len = 2
  · rw [if_neg hl] at hs; cases hs
  rw [if_pos (Decidable.not_not.mp hl)] at hs
  obtain rfl := Decidable.not_not.mp hl
  clear hl
  cases hs
  intro ls H locs hl hW hS
  exact lv_bipush hx hb hdg rfl (k ls H locs hl hW hS)

theorem ax_sipush (C : Cx p R s m args meth c o rt ini nL cc G cy oq old N0 L xs d) {n : Int} (hdg : decode cc pc = .ok (.sipush n, len)) (hs : istep call o rt ini nL len pc lo st h (.sipush n) = some (.inl cz)) (k : KK p l e R s m args below meth c nL G cy oq old N0 L xs n0 s0 Q cz) : KK p l e R s m args below meth c nL G cy oq old N0 L xs n0 s0 Q (pc, lo, st, h) := by
  obtain ⟨hx, hb, hml, hown, hts, hF, hN, hini, hlk, hrt, hfr, hlc⟩ := C
  simp only [istep] at hs
  by_cases hl : ¬ len = 3
  · rw [if_neg hl] at hs; cases hs
  rw [if_pos (Decidable.not_not.mp hl)] at hs
  obtain rfl := Decidable.not_not.mp hl
  clear hl
  cases hs
  intro ls H locs hl hW hS
  exact lv_sipush hx hb hdg rfl (k ls H locs hl hW hS)

theorem ax_lconst (C : Cx p R s m args meth c o rt ini nL cc G cy oq old N0 L xs d) {n : Fin 2} (hdg : decode cc pc = .ok (.lconst n, len)) (hs : istep call o rt ini nL len pc lo st h (.lconst n) = some (.inl cz)) (k : KK p l e R s m args below meth c nL G cy oq old N0 L xs n0 s0 Q cz) : KK p l e R s m args below meth c nL G cy oq old N0 L xs n0 s0 Q (pc, lo, st, h) := by
  obtain ⟨hx, hb, hml, hown, hts, hF, hN, hini, hlk, hrt, hfr, hlc⟩ := C
  simp only [istep] at hs
  by_cases hl : ¬ len = 1
  · rw [if_neg hl] at hs; cases hs
  rw [if_pos (Decidable.not_not.mp hl)] at hs
  obtain rfl := Decidable.not_not.mp hl
  clear hl
  cases hs
  intro ls H locs hl hW hS
  exact lv_lconst hx hb hdg rfl (k ls H locs hl hW hS)

theorem ax_ldc_w (C : Cx p R s m args meth c o rt ini nL cc G cy oq old N0 L xs d) {idx : Nat} (hdg : decode cc pc = .ok (.ldc_w idx, len)) (hs : istep call o rt ini nL len pc lo st h (.ldc_w idx) = some (.inl cz)) (k : KK p l e R s m args below meth c nL G cy oq old N0 L xs n0 s0 Q cz) : KK p l e R s m args below meth c nL G cy oq old N0 L xs n0 s0 Q (pc, lo, st, h) := by
  obtain ⟨hx, hb, hml, hown, hts, hF, hN, hini, hlk, hrt, hfr, hlc⟩ := C
  simp only [istep] at hs
  by_cases hl : ¬ len = 3
  · rw [if_neg hl] at hs; cases hs
  rw [if_pos (Decidable.not_not.mp hl)] at hs
  obtain rfl := Decidable.not_not.mp hl
  clear hl
  obtain ⟨v, hv, hs⟩ := Option.bind_eq_some_iff.mp hs
  cases hs
  intro ls H locs hl hW hS
  exact lv_ldcw hx hb hown (hts _ (Gat_in (kl_ok hv))) hdg (k ls H locs hl hW hS)

theorem ax_ldc2_w (C : Cx p R s m args meth c o rt ini nL cc G cy oq old N0 L xs d) {idx : Nat} (hdg : decode cc pc = .ok (.ldc2_w idx, len)) (hs : istep call o rt ini nL len pc lo st h (.ldc2_w idx) = some (.inl cz)) (k : KK p l e R s m args below meth c nL G cy oq old N0 L xs n0 s0 Q cz) : KK p l e R s m args below meth c nL G cy oq old N0 L xs n0 s0 Q (pc, lo, st, h) := by
  obtain ⟨hx, hb, hml, hown, hts, hF, hN, hini, hlk, hrt, hfr, hlc⟩ := C
  simp only [istep] at hs
  by_cases hl : ¬ len = 3
  · rw [if_neg hl] at hs; cases hs
  rw [if_pos (Decidable.not_not.mp hl)] at hs
  obtain rfl := Decidable.not_not.mp hl
  clear hl
  obtain ⟨v, hv, hs⟩ := Option.bind_eq_some_iff.mp hs
  cases hs
  intro ls H locs hl hW hS
  exact lv_ldc2 hx hb hown (hts _ (Gat_in (ll_ok hv))) hdg (k ls H locs hl hW hS)

theorem ax_ldc (C : Cx p R s m args meth c o rt ini nL cc G cy oq old N0 L xs d) {idx : Nat} (hdg : decode cc pc = .ok (.ldc idx, len)) (hs : istep call o rt ini nL len pc lo st h (.ldc idx) = some (.inl cz)) (k : KK p l e R s m args below meth c nL G cy oq old N0 L xs n0 s0 Q cz) : KK p l e R s m args below meth c nL G cy oq old N0 L xs n0 s0 Q (pc, lo, st, h) := by
  obtain ⟨hx, hb, hml, hown, hts, hF, hN, hini, hlk, hrt, hfr, hlc⟩ := C
  simp only [istep] at hs
  by_cases hl : ¬ len = 2
  · rw [if_neg hl] at hs; cases hs
  rw [if_pos (Decidable.not_not.mp hl)] at hs
  obtain rfl := Decidable.not_not.mp hl
  clear hl
  split at hs
  · rename_i q hv
    cases hs
    intro ls H locs hl hW hS
    exact lv_ldc hx hb hown (hts _ (Gat_in (kl_ok hv))) hdg (k ls H locs hl hW hS)
  · obtain ⟨a, hv, hs⟩ := Option.bind_eq_some_iff.mp hs
    cases hs
    intro ls H locs hl hW hS
    have hz : o = 6 ∧ ((idx = 70 ∧ a = 2) ∨ (idx = 72 ∧ a = 3) ∨ (idx = 74 ∧ a = 4)) := by
      unfold sl at hv
      by_cases h6 : o = 6
      · rw [if_pos h6] at hv
        refine ⟨h6, ?_⟩
        by_cases h1 : idx = 70
        · rw [if_pos h1] at hv; cases hv; exact Or.inl ⟨h1, rfl⟩
        · rw [if_neg h1] at hv
          by_cases h2 : idx = 72
          · rw [if_pos h2] at hv; cases hv; exact Or.inr (Or.inl ⟨h2, rfl⟩)
          · rw [if_neg h2] at hv
            by_cases h3 : idx = 74
            · rw [if_pos h3] at hv; cases hv; exact Or.inr (Or.inr ⟨h3, rfl⟩)
            · rw [if_neg h3] at hv; cases hv
      · rw [if_neg h6] at hv; cases hv
    obtain ⟨rfl, hz⟩ := hz
    have hR := hF.2.2.2.2.2.1.1
    rcases hz with ⟨rfl, rfl⟩ | ⟨rfl, rfl⟩ | ⟨rfl, rfl⟩
    · exact va_ldcS hx hb hown (hR 0 (by decide)) hdg (k ls H locs hl hW hS)
    · exact va_ldcS hx hb hown (hR 1 (by decide)) hdg (k ls H locs hl hW hS)
    · exact va_ldcS hx hb hown (hR 2 (by decide)) hdg (k ls H locs hl hW hS)

theorem ax_iadd (C : Cx p R s m args meth c o rt ini nL cc G cy oq old N0 L xs d) (hdg : decode cc pc = .ok (.iadd, len)) (hs : istep call o rt ini nL len pc lo st h (.iadd) = some (.inl cz)) (k : KK p l e R s m args below meth c nL G cy oq old N0 L xs n0 s0 Q cz) : KK p l e R s m args below meth c nL G cy oq old N0 L xs n0 s0 Q (pc, lo, st, h) := by
  obtain ⟨hx, hb, hml, hown, hts, hF, hN, hini, hlk, hrt, hfr, hlc⟩ := C
  simp only [istep] at hs
  by_cases hl : ¬ len = 1
  · rw [if_neg hl] at hs; cases hs
  rw [if_pos (Decidable.not_not.mp hl)] at hs
  obtain rfl := Decidable.not_not.mp hl
  clear hl
  unfold ibin at hs
  split at hs <;> try (cases hs; done)
  rename_i y x r
  obtain ⟨v, hv, hs⟩ := Option.bind_eq_some_iff.mp hs
  cases hv
  cases hs
  intro ls H locs hl hW hS
  exact lv_iadd hx hb hdg (k ls H locs hl hW hS)

theorem ax_isub (C : Cx p R s m args meth c o rt ini nL cc G cy oq old N0 L xs d) (hdg : decode cc pc = .ok (.isub, len)) (hs : istep call o rt ini nL len pc lo st h (.isub) = some (.inl cz)) (k : KK p l e R s m args below meth c nL G cy oq old N0 L xs n0 s0 Q cz) : KK p l e R s m args below meth c nL G cy oq old N0 L xs n0 s0 Q (pc, lo, st, h) := by
  obtain ⟨hx, hb, hml, hown, hts, hF, hN, hini, hlk, hrt, hfr, hlc⟩ := C
  simp only [istep] at hs
  by_cases hl : ¬ len = 1
  · rw [if_neg hl] at hs; cases hs
  rw [if_pos (Decidable.not_not.mp hl)] at hs
  obtain rfl := Decidable.not_not.mp hl
  clear hl
  unfold ibin at hs
  split at hs <;> try (cases hs; done)
  rename_i y x r
  obtain ⟨v, hv, hs⟩ := Option.bind_eq_some_iff.mp hs
  cases hv
  cases hs
  intro ls H locs hl hW hS
  exact lv_isub hx hb hdg (k ls H locs hl hW hS)

theorem ax_imul (C : Cx p R s m args meth c o rt ini nL cc G cy oq old N0 L xs d) (hdg : decode cc pc = .ok (.imul, len)) (hs : istep call o rt ini nL len pc lo st h (.imul) = some (.inl cz)) (k : KK p l e R s m args below meth c nL G cy oq old N0 L xs n0 s0 Q cz) : KK p l e R s m args below meth c nL G cy oq old N0 L xs n0 s0 Q (pc, lo, st, h) := by
  obtain ⟨hx, hb, hml, hown, hts, hF, hN, hini, hlk, hrt, hfr, hlc⟩ := C
  simp only [istep] at hs
  by_cases hl : ¬ len = 1
  · rw [if_neg hl] at hs; cases hs
  rw [if_pos (Decidable.not_not.mp hl)] at hs
  obtain rfl := Decidable.not_not.mp hl
  clear hl
  unfold ibin at hs
  split at hs <;> try (cases hs; done)
  rename_i y x r
  obtain ⟨v, hv, hs⟩ := Option.bind_eq_some_iff.mp hs
  cases hv
  cases hs
  intro ls H locs hl hW hS
  exact lv_imul hx hb hdg (k ls H locs hl hW hS)

theorem ax_iand (C : Cx p R s m args meth c o rt ini nL cc G cy oq old N0 L xs d) (hdg : decode cc pc = .ok (.iand, len)) (hs : istep call o rt ini nL len pc lo st h (.iand) = some (.inl cz)) (k : KK p l e R s m args below meth c nL G cy oq old N0 L xs n0 s0 Q cz) : KK p l e R s m args below meth c nL G cy oq old N0 L xs n0 s0 Q (pc, lo, st, h) := by
  obtain ⟨hx, hb, hml, hown, hts, hF, hN, hini, hlk, hrt, hfr, hlc⟩ := C
  simp only [istep] at hs
  by_cases hl : ¬ len = 1
  · rw [if_neg hl] at hs; cases hs
  rw [if_pos (Decidable.not_not.mp hl)] at hs
  obtain rfl := Decidable.not_not.mp hl
  clear hl
  unfold ibin at hs
  split at hs <;> try (cases hs; done)
  rename_i y x r
  obtain ⟨v, hv, hs⟩ := Option.bind_eq_some_iff.mp hs
  cases hv
  cases hs
  intro ls H locs hl hW hS
  exact lv_iand hx hb hdg (k ls H locs hl hW hS)

theorem ax_ior (C : Cx p R s m args meth c o rt ini nL cc G cy oq old N0 L xs d) (hdg : decode cc pc = .ok (.ior, len)) (hs : istep call o rt ini nL len pc lo st h (.ior) = some (.inl cz)) (k : KK p l e R s m args below meth c nL G cy oq old N0 L xs n0 s0 Q cz) : KK p l e R s m args below meth c nL G cy oq old N0 L xs n0 s0 Q (pc, lo, st, h) := by
  obtain ⟨hx, hb, hml, hown, hts, hF, hN, hini, hlk, hrt, hfr, hlc⟩ := C
  simp only [istep] at hs
  by_cases hl : ¬ len = 1
  · rw [if_neg hl] at hs; cases hs
  rw [if_pos (Decidable.not_not.mp hl)] at hs
  obtain rfl := Decidable.not_not.mp hl
  clear hl
  unfold ibin at hs
  split at hs <;> try (cases hs; done)
  rename_i y x r
  obtain ⟨v, hv, hs⟩ := Option.bind_eq_some_iff.mp hs
  cases hv
  cases hs
  intro ls H locs hl hW hS
  exact lv_ior hx hb hdg (k ls H locs hl hW hS)

theorem ax_ixor (C : Cx p R s m args meth c o rt ini nL cc G cy oq old N0 L xs d) (hdg : decode cc pc = .ok (.ixor, len)) (hs : istep call o rt ini nL len pc lo st h (.ixor) = some (.inl cz)) (k : KK p l e R s m args below meth c nL G cy oq old N0 L xs n0 s0 Q cz) : KK p l e R s m args below meth c nL G cy oq old N0 L xs n0 s0 Q (pc, lo, st, h) := by
  obtain ⟨hx, hb, hml, hown, hts, hF, hN, hini, hlk, hrt, hfr, hlc⟩ := C
  simp only [istep] at hs
  by_cases hl : ¬ len = 1
  · rw [if_neg hl] at hs; cases hs
  rw [if_pos (Decidable.not_not.mp hl)] at hs
  obtain rfl := Decidable.not_not.mp hl
  clear hl
  unfold ibin at hs
  split at hs <;> try (cases hs; done)
  rename_i y x r
  obtain ⟨v, hv, hs⟩ := Option.bind_eq_some_iff.mp hs
  cases hv
  cases hs
  intro ls H locs hl hW hS
  exact lv_ixor hx hb hdg (k ls H locs hl hW hS)

theorem ax_ishl (C : Cx p R s m args meth c o rt ini nL cc G cy oq old N0 L xs d) (hdg : decode cc pc = .ok (.ishl, len)) (hs : istep call o rt ini nL len pc lo st h (.ishl) = some (.inl cz)) (k : KK p l e R s m args below meth c nL G cy oq old N0 L xs n0 s0 Q cz) : KK p l e R s m args below meth c nL G cy oq old N0 L xs n0 s0 Q (pc, lo, st, h) := by
  obtain ⟨hx, hb, hml, hown, hts, hF, hN, hini, hlk, hrt, hfr, hlc⟩ := C
  simp only [istep] at hs
  by_cases hl : ¬ len = 1
  · rw [if_neg hl] at hs; cases hs
  rw [if_pos (Decidable.not_not.mp hl)] at hs
  obtain rfl := Decidable.not_not.mp hl
  clear hl
  unfold ibin at hs
  split at hs <;> try (cases hs; done)
  rename_i y x r
  obtain ⟨v, hv, hs⟩ := Option.bind_eq_some_iff.mp hs
  cases hv
  cases hs
  intro ls H locs hl hW hS
  exact lv_ishl hx hb hdg (k ls H locs hl hW hS)

theorem ax_ishr (C : Cx p R s m args meth c o rt ini nL cc G cy oq old N0 L xs d) (hdg : decode cc pc = .ok (.ishr, len)) (hs : istep call o rt ini nL len pc lo st h (.ishr) = some (.inl cz)) (k : KK p l e R s m args below meth c nL G cy oq old N0 L xs n0 s0 Q cz) : KK p l e R s m args below meth c nL G cy oq old N0 L xs n0 s0 Q (pc, lo, st, h) := by
  obtain ⟨hx, hb, hml, hown, hts, hF, hN, hini, hlk, hrt, hfr, hlc⟩ := C
  simp only [istep] at hs
  by_cases hl : ¬ len = 1
  · rw [if_neg hl] at hs; cases hs
  rw [if_pos (Decidable.not_not.mp hl)] at hs
  obtain rfl := Decidable.not_not.mp hl
  clear hl
  unfold ibin at hs
  split at hs <;> try (cases hs; done)
  rename_i y x r
  obtain ⟨v, hv, hs⟩ := Option.bind_eq_some_iff.mp hs
  cases hv
  cases hs
  intro ls H locs hl hW hS
  exact lv_ishr hx hb hdg (k ls H locs hl hW hS)

theorem ax_idiv (C : Cx p R s m args meth c o rt ini nL cc G cy oq old N0 L xs d) (hdg : decode cc pc = .ok (.idiv, len)) (hs : istep call o rt ini nL len pc lo st h (.idiv) = some (.inl cz)) (k : KK p l e R s m args below meth c nL G cy oq old N0 L xs n0 s0 Q cz) : KK p l e R s m args below meth c nL G cy oq old N0 L xs n0 s0 Q (pc, lo, st, h) := by
  obtain ⟨hx, hb, hml, hown, hts, hF, hN, hini, hlk, hrt, hfr, hlc⟩ := C
  simp only [istep] at hs
  by_cases hl : ¬ len = 1
  · rw [if_neg hl] at hs; cases hs
  rw [if_pos (Decidable.not_not.mp hl)] at hs
  obtain rfl := Decidable.not_not.mp hl
  clear hl
  unfold ibin at hs
  split at hs <;> try (cases hs; done)
  rename_i y x r
  obtain ⟨v, hv, hs⟩ := Option.bind_eq_some_iff.mp hs
  by_cases hy : y = 0
  · simp only [if_pos hy] at hv; cases hv
  simp only [if_neg hy] at hv
  cases hv
  cases hs
  intro ls H locs hl hW hS
  exact lv_idiv hx hb hdg hy (k ls H locs hl hW hS)

theorem ax_irem (C : Cx p R s m args meth c o rt ini nL cc G cy oq old N0 L xs d) (hdg : decode cc pc = .ok (.irem, len)) (hs : istep call o rt ini nL len pc lo st h (.irem) = some (.inl cz)) (k : KK p l e R s m args below meth c nL G cy oq old N0 L xs n0 s0 Q cz) : KK p l e R s m args below meth c nL G cy oq old N0 L xs n0 s0 Q (pc, lo, st, h) := by
  obtain ⟨hx, hb, hml, hown, hts, hF, hN, hini, hlk, hrt, hfr, hlc⟩ := C
  simp only [istep] at hs
  by_cases hl : ¬ len = 1
  · rw [if_neg hl] at hs; cases hs
  rw [if_pos (Decidable.not_not.mp hl)] at hs
  obtain rfl := Decidable.not_not.mp hl
  clear hl
  unfold ibin at hs
  split at hs <;> try (cases hs; done)
  rename_i y x r
  obtain ⟨v, hv, hs⟩ := Option.bind_eq_some_iff.mp hs
  by_cases hy : y = 0
  · simp only [if_pos hy] at hv; cases hv
  simp only [if_neg hy] at hv
  cases hv
  cases hs
  intro ls H locs hl hW hS
  exact lv_irem hx hb hdg hy (k ls H locs hl hW hS)

theorem ax_ladd (C : Cx p R s m args meth c o rt ini nL cc G cy oq old N0 L xs d) (hdg : decode cc pc = .ok (.ladd, len)) (hs : istep call o rt ini nL len pc lo st h (.ladd) = some (.inl cz)) (k : KK p l e R s m args below meth c nL G cy oq old N0 L xs n0 s0 Q cz) : KK p l e R s m args below meth c nL G cy oq old N0 L xs n0 s0 Q (pc, lo, st, h) := by
  obtain ⟨hx, hb, hml, hown, hts, hF, hN, hini, hlk, hrt, hfr, hlc⟩ := C
  simp only [istep] at hs
  by_cases hl : ¬ len = 1
  · rw [if_neg hl] at hs; cases hs
  rw [if_pos (Decidable.not_not.mp hl)] at hs
  obtain rfl := Decidable.not_not.mp hl
  clear hl
  unfold lbin at hs
  split at hs <;> try (cases hs; done)
  rename_i y x r
  obtain ⟨v, hv, hs⟩ := Option.bind_eq_some_iff.mp hs
  cases hv
  cases hs
  intro ls H locs hl hW hS
  exact lv_ladd hx hb hdg (k ls H locs hl hW hS)

theorem ax_lsub (C : Cx p R s m args meth c o rt ini nL cc G cy oq old N0 L xs d) (hdg : decode cc pc = .ok (.lsub, len)) (hs : istep call o rt ini nL len pc lo st h (.lsub) = some (.inl cz)) (k : KK p l e R s m args below meth c nL G cy oq old N0 L xs n0 s0 Q cz) : KK p l e R s m args below meth c nL G cy oq old N0 L xs n0 s0 Q (pc, lo, st, h) := by
  obtain ⟨hx, hb, hml, hown, hts, hF, hN, hini, hlk, hrt, hfr, hlc⟩ := C
  simp only [istep] at hs
  by_cases hl : ¬ len = 1
  · rw [if_neg hl] at hs; cases hs
  rw [if_pos (Decidable.not_not.mp hl)] at hs
  obtain rfl := Decidable.not_not.mp hl
  clear hl
  unfold lbin at hs
  split at hs <;> try (cases hs; done)
  rename_i y x r
  obtain ⟨v, hv, hs⟩ := Option.bind_eq_some_iff.mp hs
  cases hv
  cases hs
  intro ls H locs hl hW hS
  exact lv_lsub hx hb hdg (k ls H locs hl hW hS)

theorem ax_lmul (C : Cx p R s m args meth c o rt ini nL cc G cy oq old N0 L xs d) (hdg : decode cc pc = .ok (.lmul, len)) (hs : istep call o rt ini nL len pc lo st h (.lmul) = some (.inl cz)) (k : KK p l e R s m args below meth c nL G cy oq old N0 L xs n0 s0 Q cz) : KK p l e R s m args below meth c nL G cy oq old N0 L xs n0 s0 Q (pc, lo, st, h) := by
  obtain ⟨hx, hb, hml, hown, hts, hF, hN, hini, hlk, hrt, hfr, hlc⟩ := C
  simp only [istep] at hs
  by_cases hl : ¬ len = 1
  · rw [if_neg hl] at hs; cases hs
  rw [if_pos (Decidable.not_not.mp hl)] at hs
  obtain rfl := Decidable.not_not.mp hl
  clear hl
  unfold lbin at hs
  split at hs <;> try (cases hs; done)
  rename_i y x r
  obtain ⟨v, hv, hs⟩ := Option.bind_eq_some_iff.mp hs
  cases hv
  cases hs
  intro ls H locs hl hW hS
  exact lv_lmul hx hb hdg (k ls H locs hl hW hS)

theorem ax_land (C : Cx p R s m args meth c o rt ini nL cc G cy oq old N0 L xs d) (hdg : decode cc pc = .ok (.land, len)) (hs : istep call o rt ini nL len pc lo st h (.land) = some (.inl cz)) (k : KK p l e R s m args below meth c nL G cy oq old N0 L xs n0 s0 Q cz) : KK p l e R s m args below meth c nL G cy oq old N0 L xs n0 s0 Q (pc, lo, st, h) := by
  obtain ⟨hx, hb, hml, hown, hts, hF, hN, hini, hlk, hrt, hfr, hlc⟩ := C
  simp only [istep] at hs
  by_cases hl : ¬ len = 1
  · rw [if_neg hl] at hs; cases hs
  rw [if_pos (Decidable.not_not.mp hl)] at hs
  obtain rfl := Decidable.not_not.mp hl
  clear hl
  unfold lbin at hs
  split at hs <;> try (cases hs; done)
  rename_i y x r
  obtain ⟨v, hv, hs⟩ := Option.bind_eq_some_iff.mp hs
  cases hv
  cases hs
  intro ls H locs hl hW hS
  exact lv_land hx hb hdg (k ls H locs hl hW hS)

theorem ax_ldiv (C : Cx p R s m args meth c o rt ini nL cc G cy oq old N0 L xs d) (hdg : decode cc pc = .ok (.ldiv, len)) (hs : istep call o rt ini nL len pc lo st h (.ldiv) = some (.inl cz)) (k : KK p l e R s m args below meth c nL G cy oq old N0 L xs n0 s0 Q cz) : KK p l e R s m args below meth c nL G cy oq old N0 L xs n0 s0 Q (pc, lo, st, h) := by
  obtain ⟨hx, hb, hml, hown, hts, hF, hN, hini, hlk, hrt, hfr, hlc⟩ := C
  simp only [istep] at hs
  by_cases hl : ¬ len = 1
  · rw [if_neg hl] at hs; cases hs
  rw [if_pos (Decidable.not_not.mp hl)] at hs
  obtain rfl := Decidable.not_not.mp hl
  clear hl
  unfold lbin at hs
  split at hs <;> try (cases hs; done)
  rename_i y x r
  obtain ⟨v, hv, hs⟩ := Option.bind_eq_some_iff.mp hs
  by_cases hy : y = 0
  · simp only [if_pos hy] at hv; cases hv
  simp only [if_neg hy] at hv
  cases hv
  cases hs
  intro ls H locs hl hW hS
  exact lv_ldiv hx hb hdg hy (k ls H locs hl hW hS)

theorem ax_lrem (C : Cx p R s m args meth c o rt ini nL cc G cy oq old N0 L xs d) (hdg : decode cc pc = .ok (.lrem, len)) (hs : istep call o rt ini nL len pc lo st h (.lrem) = some (.inl cz)) (k : KK p l e R s m args below meth c nL G cy oq old N0 L xs n0 s0 Q cz) : KK p l e R s m args below meth c nL G cy oq old N0 L xs n0 s0 Q (pc, lo, st, h) := by
  obtain ⟨hx, hb, hml, hown, hts, hF, hN, hini, hlk, hrt, hfr, hlc⟩ := C
  simp only [istep] at hs
  by_cases hl : ¬ len = 1
  · rw [if_neg hl] at hs; cases hs
  rw [if_pos (Decidable.not_not.mp hl)] at hs
  obtain rfl := Decidable.not_not.mp hl
  clear hl
  unfold lbin at hs
  split at hs <;> try (cases hs; done)
  rename_i y x r
  obtain ⟨v, hv, hs⟩ := Option.bind_eq_some_iff.mp hs
  by_cases hy : y = 0
  · simp only [if_pos hy] at hv; cases hv
  simp only [if_neg hy] at hv
  cases hv
  cases hs
  intro ls H locs hl hW hS
  exact lv_lrem hx hb hdg hy (k ls H locs hl hW hS)

theorem ax_iushr (C : Cx p R s m args meth c o rt ini nL cc G cy oq old N0 L xs d) (hdg : decode cc pc = .ok (.iushr, len)) (hs : istep call o rt ini nL len pc lo st h (.iushr) = some (.inl cz)) (k : KK p l e R s m args below meth c nL G cy oq old N0 L xs n0 s0 Q cz) : KK p l e R s m args below meth c nL G cy oq old N0 L xs n0 s0 Q (pc, lo, st, h) := by
  obtain ⟨hx, hb, hml, hown, hts, hF, hN, hini, hlk, hrt, hfr, hlc⟩ := C
  simp only [istep] at hs
  by_cases hl : ¬ len = 1
  · rw [if_neg hl] at hs; cases hs
  rw [if_pos (Decidable.not_not.mp hl)] at hs
  obtain rfl := Decidable.not_not.mp hl
  clear hl
  unfold ibin at hs
  split at hs <;> try (cases hs; done)
  rename_i y x r
  obtain ⟨v, hv, hs⟩ := Option.bind_eq_some_iff.mp hs
  cases hv
  cases hs
  intro ls H locs hl hW hS
  exact lv_iushr hx hb hdg rfl (k ls H locs hl hW hS)

theorem ax_ineg (C : Cx p R s m args meth c o rt ini nL cc G cy oq old N0 L xs d) (hdg : decode cc pc = .ok (.ineg, len)) (hs : istep call o rt ini nL len pc lo st h (.ineg) = some (.inl cz)) (k : KK p l e R s m args below meth c nL G cy oq old N0 L xs n0 s0 Q cz) : KK p l e R s m args below meth c nL G cy oq old N0 L xs n0 s0 Q (pc, lo, st, h) := by
  obtain ⟨hx, hb, hml, hown, hts, hF, hN, hini, hlk, hrt, hfr, hlc⟩ := C
  simp only [istep] at hs
  by_cases hl : ¬ len = 1
  · rw [if_neg hl] at hs; cases hs
  rw [if_pos (Decidable.not_not.mp hl)] at hs
  obtain rfl := Decidable.not_not.mp hl
  clear hl
  unfold iun at hs
  split at hs <;> try (cases hs; done)
  cases hs
  intro ls H locs hl hW hS
  exact lv_ineg hx hb hdg (k ls H locs hl hW hS)

theorem ax_i2l (C : Cx p R s m args meth c o rt ini nL cc G cy oq old N0 L xs d) (hdg : decode cc pc = .ok (.i2l, len)) (hs : istep call o rt ini nL len pc lo st h (.i2l) = some (.inl cz)) (k : KK p l e R s m args below meth c nL G cy oq old N0 L xs n0 s0 Q cz) : KK p l e R s m args below meth c nL G cy oq old N0 L xs n0 s0 Q (pc, lo, st, h) := by
  obtain ⟨hx, hb, hml, hown, hts, hF, hN, hini, hlk, hrt, hfr, hlc⟩ := C
  simp only [istep] at hs
  by_cases hl : ¬ len = 1
  · rw [if_neg hl] at hs; cases hs
  rw [if_pos (Decidable.not_not.mp hl)] at hs
  obtain rfl := Decidable.not_not.mp hl
  clear hl
  unfold iun at hs
  split at hs <;> try (cases hs; done)
  cases hs
  intro ls H locs hl hW hS
  exact lv_i2l hx hb hdg rfl (k ls H locs hl hW hS)

theorem ax_i2c (C : Cx p R s m args meth c o rt ini nL cc G cy oq old N0 L xs d) (hdg : decode cc pc = .ok (.i2c, len)) (hs : istep call o rt ini nL len pc lo st h (.i2c) = some (.inl cz)) (k : KK p l e R s m args below meth c nL G cy oq old N0 L xs n0 s0 Q cz) : KK p l e R s m args below meth c nL G cy oq old N0 L xs n0 s0 Q (pc, lo, st, h) := by
  obtain ⟨hx, hb, hml, hown, hts, hF, hN, hini, hlk, hrt, hfr, hlc⟩ := C
  simp only [istep] at hs
  by_cases hl : ¬ len = 1
  · rw [if_neg hl] at hs; cases hs
  rw [if_pos (Decidable.not_not.mp hl)] at hs
  obtain rfl := Decidable.not_not.mp hl
  clear hl
  unfold iun at hs
  split at hs <;> try (cases hs; done)
  cases hs
  intro ls H locs hl hW hS
  exact lv_i2c hx hb hdg rfl (k ls H locs hl hW hS)

theorem ax_l2i (C : Cx p R s m args meth c o rt ini nL cc G cy oq old N0 L xs d) (hdg : decode cc pc = .ok (.l2i, len)) (hs : istep call o rt ini nL len pc lo st h (.l2i) = some (.inl cz)) (k : KK p l e R s m args below meth c nL G cy oq old N0 L xs n0 s0 Q cz) : KK p l e R s m args below meth c nL G cy oq old N0 L xs n0 s0 Q (pc, lo, st, h) := by
  obtain ⟨hx, hb, hml, hown, hts, hF, hN, hini, hlk, hrt, hfr, hlc⟩ := C
  simp only [istep] at hs
  by_cases hl : ¬ len = 1
  · rw [if_neg hl] at hs; cases hs
  rw [if_pos (Decidable.not_not.mp hl)] at hs
  obtain rfl := Decidable.not_not.mp hl
  clear hl
  split at hs <;> try (cases hs; done)
  cases hs
  intro ls H locs hl hW hS
  exact lv_l2i hx hb hdg rfl (k ls H locs hl hW hS)

theorem ax_lcmp (C : Cx p R s m args meth c o rt ini nL cc G cy oq old N0 L xs d) (hdg : decode cc pc = .ok (.lcmp, len)) (hs : istep call o rt ini nL len pc lo st h (.lcmp) = some (.inl cz)) (k : KK p l e R s m args below meth c nL G cy oq old N0 L xs n0 s0 Q cz) : KK p l e R s m args below meth c nL G cy oq old N0 L xs n0 s0 Q (pc, lo, st, h) := by
  obtain ⟨hx, hb, hml, hown, hts, hF, hN, hini, hlk, hrt, hfr, hlc⟩ := C
  simp only [istep] at hs
  by_cases hl : ¬ len = 1
  · rw [if_neg hl] at hs; cases hs
  rw [if_pos (Decidable.not_not.mp hl)] at hs
  obtain rfl := Decidable.not_not.mp hl
  clear hl
  split at hs <;> try (cases hs; done)
  cases hs
  intro ls H locs hl hW hS
  exact W.lcmp hx hb hdg (k ls H locs hl hW hS)

theorem ax_dup (C : Cx p R s m args meth c o rt ini nL cc G cy oq old N0 L xs d) (hdg : decode cc pc = .ok (.dup, len)) (hs : istep call o rt ini nL len pc lo st h (.dup) = some (.inl cz)) (k : KK p l e R s m args below meth c nL G cy oq old N0 L xs n0 s0 Q cz) : KK p l e R s m args below meth c nL G cy oq old N0 L xs n0 s0 Q (pc, lo, st, h) := by
  obtain ⟨hx, hb, hml, hown, hts, hF, hN, hini, hlk, hrt, hfr, hlc⟩ := C
  simp only [istep] at hs
  by_cases hl : ¬ len = 1
  · rw [if_neg hl] at hs; cases hs
  rw [if_pos (Decidable.not_not.mp hl)] at hs
  obtain rfl := Decidable.not_not.mp hl
  clear hl
  split at hs <;> try (cases hs; done)
  split at hs <;> try (cases hs; done)
  rename_i hc
  cases hs
  intro ls H locs hl hW hS
  exact lv_dup hx hb hdg ((cv_cat oq (adr old N0) _).trans hc) (k ls H locs hl hW hS)

theorem ax_pop (C : Cx p R s m args meth c o rt ini nL cc G cy oq old N0 L xs d) (hdg : decode cc pc = .ok (.pop, len)) (hs : istep call o rt ini nL len pc lo st h (.pop) = some (.inl cz)) (k : KK p l e R s m args below meth c nL G cy oq old N0 L xs n0 s0 Q cz) : KK p l e R s m args below meth c nL G cy oq old N0 L xs n0 s0 Q (pc, lo, st, h) := by
  obtain ⟨hx, hb, hml, hown, hts, hF, hN, hini, hlk, hrt, hfr, hlc⟩ := C
  simp only [istep] at hs
  by_cases hl : ¬ len = 1
  · rw [if_neg hl] at hs; cases hs
  rw [if_pos (Decidable.not_not.mp hl)] at hs
  obtain rfl := Decidable.not_not.mp hl
  clear hl
  split at hs <;> try (cases hs; done)
  split at hs <;> try (cases hs; done)
  rename_i hc
  cases hs
  intro ls H locs hl hW hS
  exact lv_pop hx hb hdg ((cv_cat oq (adr old N0) _).trans hc) (k ls H locs hl hW hS)

theorem ax_dup_x1 (C : Cx p R s m args meth c o rt ini nL cc G cy oq old N0 L xs d) (hdg : decode cc pc = .ok (.dup_x1, len)) (hs : istep call o rt ini nL len pc lo st h (.dup_x1) = some (.inl cz)) (k : KK p l e R s m args below meth c nL G cy oq old N0 L xs n0 s0 Q cz) : KK p l e R s m args below meth c nL G cy oq old N0 L xs n0 s0 Q (pc, lo, st, h) := by
  obtain ⟨hx, hb, hml, hown, hts, hF, hN, hini, hlk, hrt, hfr, hlc⟩ := C
  simp only [istep] at hs
  by_cases hl : ¬ len = 1
  · rw [if_neg hl] at hs; cases hs
  rw [if_pos (Decidable.not_not.mp hl)] at hs
  obtain rfl := Decidable.not_not.mp hl
  clear hl
  split at hs <;> try (cases hs; done)
  split at hs <;> try (cases hs; done)
  rename_i hc
  cases hs
  intro ls H locs hl hW hS
  exact lv_dup_x1 hx hb hdg ((cv_cat oq (adr old N0) _).trans hc.1) ((cv_cat oq (adr old N0) _).trans hc.2) (k ls H locs hl hW hS)

theorem ax_dup_x2 (C : Cx p R s m args meth c o rt ini nL cc G cy oq old N0 L xs d) (hdg : decode cc pc = .ok (.dup_x2, len)) (hs : istep call o rt ini nL len pc lo st h (.dup_x2) = some (.inl cz)) (k : KK p l e R s m args below meth c nL G cy oq old N0 L xs n0 s0 Q cz) : KK p l e R s m args below meth c nL G cy oq old N0 L xs n0 s0 Q (pc, lo, st, h) := by
  obtain ⟨hx, hb, hml, hown, hts, hF, hN, hini, hlk, hrt, hfr, hlc⟩ := C
  simp only [istep] at hs
  by_cases hl : ¬ len = 1
  · rw [if_neg hl] at hs; cases hs
  rw [if_pos (Decidable.not_not.mp hl)] at hs
  obtain rfl := Decidable.not_not.mp hl
  clear hl
  split at hs <;> try (cases hs; done)
  split at hs <;> try (cases hs; done)
  rename_i hc
  cases hs
  intro ls H locs hl hW hS
  exact lv_dup_x2 hx hb hdg ((cv_cat oq (adr old N0) _).trans hc.1) ((cv_cat oq (adr old N0) _).trans hc.2.1) ((cv_cat oq (adr old N0) _).trans hc.2.2) (k ls H locs hl hW hS)

theorem ax_dup2 (C : Cx p R s m args meth c o rt ini nL cc G cy oq old N0 L xs d) (hdg : decode cc pc = .ok (.dup2, len)) (hs : istep call o rt ini nL len pc lo st h (.dup2) = some (.inl cz)) (k : KK p l e R s m args below meth c nL G cy oq old N0 L xs n0 s0 Q cz) : KK p l e R s m args below meth c nL G cy oq old N0 L xs n0 s0 Q (pc, lo, st, h) := by
  obtain ⟨hx, hb, hml, hown, hts, hF, hN, hini, hlk, hrt, hfr, hlc⟩ := C
  simp only [istep] at hs
  by_cases hl : ¬ len = 1
  · rw [if_neg hl] at hs; cases hs
  rw [if_pos (Decidable.not_not.mp hl)] at hs
  obtain rfl := Decidable.not_not.mp hl
  clear hl
  split at hs <;> try (cases hs; done)
  split at hs <;> try (cases hs; done)
  rename_i hc
  cases hs
  intro ls H locs hl hW hS
  exact lv_dup2_11 hx hb hdg ((cv_cat oq (adr old N0) _).trans hc.1) ((cv_cat oq (adr old N0) _).trans hc.2) (k ls H locs hl hW hS)

theorem jmp_eq {pc t : Nat} {off : Int} (h : jmp pc off = some t) : (pc : Int) + off = (t : Int) := by
  unfold jmp at h
  by_cases hz : 0 ≤ (pc : Int) + off
  · rw [if_pos hz] at h
    have := Option.some.inj h
    omega
  · rw [if_neg hz] at h; cases h

theorem ax_goto (C : Cx p R s m args meth c o rt ini nL cc G cy oq old N0 L xs d) {off : Int} (hdg : decode cc pc = .ok (.goto off, len)) (hs : istep call o rt ini nL len pc lo st h (.goto off) = some (.inl cz)) (k : KK p l e R s m args below meth c nL G cy oq old N0 L xs n0 s0 Q cz) : KK p l e R s m args below meth c nL G cy oq old N0 L xs n0 s0 Q (pc, lo, st, h) := by
  obtain ⟨hx, hb, hml, hown, hts, hF, hN, hini, hlk, hrt, hfr, hlc⟩ := C
  simp only [istep] at hs
  by_cases hl : ¬ len = 3
  · rw [if_neg hl] at hs; cases hs
  rw [if_pos (Decidable.not_not.mp hl)] at hs
  obtain rfl := Decidable.not_not.mp hl
  clear hl
  obtain ⟨t, ht, hs⟩ := Option.bind_eq_some_iff.mp hs
  cases hs
  intro ls H locs hl hW hS
  exact lv_goto hx hb hdg (jmp_eq ht) (k ls H locs hl hW hS)

theorem ax_if_eq (C : Cx p R s m args meth c o rt ini nL cc G cy oq old N0 L xs d) {off : Int} (hdg : decode cc pc = .ok (.ifCond .eq off, len)) (hs : istep call o rt ini nL len pc lo st h (.ifCond .eq off) = some (.inl cz)) (k : KK p l e R s m args below meth c nL G cy oq old N0 L xs n0 s0 Q cz) : KK p l e R s m args below meth c nL G cy oq old N0 L xs n0 s0 Q (pc, lo, st, h) := by
  obtain ⟨hx, hb, hml, hown, hts, hF, hN, hini, hlk, hrt, hfr, hlc⟩ := C
  simp only [istep] at hs
  by_cases hl : ¬ len = 3
  · rw [if_neg hl] at hs; cases hs
  rw [if_pos (Decidable.not_not.mp hl)] at hs
  obtain rfl := Decidable.not_not.mp hl
  clear hl
  unfold ibr1 at hs
  split at hs <;> try (cases hs; done)
  rename_i x r
  obtain ⟨t, ht, hs⟩ := Option.bind_eq_some_iff.mp hs
  intro ls H locs hl hW hS
  by_cases hc : c1 .eq x = true
  · rw [if_pos hc] at hs
    cases hs
    refine lv_if_eq hx hb hdg (jmp_eq ht) (fun _ => k ls H locs hl hW hS) (fun hn => by first | exact absurd (by simpa [c1] using hc) hn | exact absurd hn (by simpa [c1] using hc))
  · rw [if_neg hc] at hs
    cases hs
    refine lv_if_eq hx hb hdg (jmp_eq ht) (fun hp => absurd (by simpa [c1] using hp) hc) (fun _ => k ls H locs hl hW hS)

theorem ax_icmp_eq (C : Cx p R s m args meth c o rt ini nL cc G cy oq old N0 L xs d) {off : Int} (hdg : decode cc pc = .ok (.if_icmp .eq off, len)) (hs : istep call o rt ini nL len pc lo st h (.if_icmp .eq off) = some (.inl cz)) (k : KK p l e R s m args below meth c nL G cy oq old N0 L xs n0 s0 Q cz) : KK p l e R s m args below meth c nL G cy oq old N0 L xs n0 s0 Q (pc, lo, st, h) := by
  obtain ⟨hx, hb, hml, hown, hts, hF, hN, hini, hlk, hrt, hfr, hlc⟩ := C
  simp only [istep] at hs
  by_cases hl : ¬ len = 3
  · rw [if_neg hl] at hs; cases hs
  rw [if_pos (Decidable.not_not.mp hl)] at hs
  obtain rfl := Decidable.not_not.mp hl
  clear hl
  unfold ibr2 at hs
  split at hs <;> try (cases hs; done)
  rename_i y x r
  obtain ⟨t, ht, hs⟩ := Option.bind_eq_some_iff.mp hs
  intro ls H locs hl hW hS
  by_cases hc : c2 .eq x y = true
  · rw [if_pos hc] at hs
    cases hs
    refine lv_icmp_eq hx hb hdg (jmp_eq ht) (fun _ => k ls H locs hl hW hS) (fun hn => by first | exact absurd (by simpa [c2] using hc) hn | exact absurd hn (by simpa [c2] using hc))
  · rw [if_neg hc] at hs
    cases hs
    refine lv_icmp_eq hx hb hdg (jmp_eq ht) (fun hp => absurd (by simpa [c2] using hp) hc) (fun _ => k ls H locs hl hW hS)

theorem ax_if_ne (C : Cx p R s m args meth c o rt ini nL cc G cy oq old N0 L xs d) {off : Int} (hdg : decode cc pc = .ok (.ifCond .ne off, len)) (hs : istep call o rt ini nL len pc lo st h (.ifCond .ne off) = some (.inl cz)) (k : KK p l e R s m args below meth c nL G cy oq old N0 L xs n0 s0 Q cz) : KK p l e R s m args below meth c nL G cy oq old N0 L xs n0 s0 Q (pc, lo, st, h) := by
  obtain ⟨hx, hb, hml, hown, hts, hF, hN, hini, hlk, hrt, hfr, hlc⟩ := C
  simp only [istep] at hs
  by_cases hl : ¬ len = 3
  · rw [if_neg hl] at hs; cases hs
  rw [if_pos (Decidable.not_not.mp hl)] at hs
  obtain rfl := Decidable.not_not.mp hl
  clear hl
  unfold ibr1 at hs
  split at hs <;> try (cases hs; done)
  rename_i x r
  obtain ⟨t, ht, hs⟩ := Option.bind_eq_some_iff.mp hs
  intro ls H locs hl hW hS
  by_cases hc : c1 .ne x = true
  · rw [if_pos hc] at hs
    cases hs
    refine lv_if_ne hx hb hdg (jmp_eq ht) (fun _ => k ls H locs hl hW hS) (fun hn => by first | exact absurd (by simpa [c1] using hc) hn | exact absurd hn (by simpa [c1] using hc))
  · rw [if_neg hc] at hs
    cases hs
    refine lv_if_ne hx hb hdg (jmp_eq ht) (fun hp => absurd (by simpa [c1] using hp) hc) (fun _ => k ls H locs hl hW hS)

theorem ax_icmp_ne (C : Cx p R s m args meth c o rt ini nL cc G cy oq old N0 L xs d) {off : Int} (hdg : decode cc pc = .ok (.if_icmp .ne off, len)) (hs : istep call o rt ini nL len pc lo st h (.if_icmp .ne off) = some (.inl cz)) (k : KK p l e R s m args below meth c nL G cy oq old N0 L xs n0 s0 Q cz) : KK p l e R s m args below meth c nL G cy oq old N0 L xs n0 s0 Q (pc, lo, st, h) := by
  obtain ⟨hx, hb, hml, hown, hts, hF, hN, hini, hlk, hrt, hfr, hlc⟩ := C
  simp only [istep] at hs
  by_cases hl : ¬ len = 3
  · rw [if_neg hl] at hs; cases hs
  rw [if_pos (Decidable.not_not.mp hl)] at hs
  obtain rfl := Decidable.not_not.mp hl
  clear hl
  unfold ibr2 at hs
  split at hs <;> try (cases hs; done)
  rename_i y x r
  obtain ⟨t, ht, hs⟩ := Option.bind_eq_some_iff.mp hs
  intro ls H locs hl hW hS
  by_cases hc : c2 .ne x y = true
  · rw [if_pos hc] at hs
    cases hs
    refine lv_icmp_ne hx hb hdg (jmp_eq ht) (fun _ => k ls H locs hl hW hS) (fun hn => by first | exact absurd (by simpa [c2] using hc) hn | exact absurd hn (by simpa [c2] using hc))
  · rw [if_neg hc] at hs
    cases hs
    refine lv_icmp_ne hx hb hdg (jmp_eq ht) (fun hp => absurd (by simpa [c2] using hp) hc) (fun _ => k ls H locs hl hW hS)

theorem ax_if_lt (C : Cx p R s m args meth c o rt ini nL cc G cy oq old N0 L xs d) {off : Int} (hdg : decode cc pc = .ok (.ifCond .lt off, len)) (hs : istep call o rt ini nL len pc lo st h (.ifCond .lt off) = some (.inl cz)) (k : KK p l e R s m args below meth c nL G cy oq old N0 L xs n0 s0 Q cz) : KK p l e R s m args below meth c nL G cy oq old N0 L xs n0 s0 Q (pc, lo, st, h) := by
  obtain ⟨hx, hb, hml, hown, hts, hF, hN, hini, hlk, hrt, hfr, hlc⟩ := C
  simp only [istep] at hs
  by_cases hl : ¬ len = 3
  · rw [if_neg hl] at hs; cases hs
  rw [if_pos (Decidable.not_not.mp hl)] at hs
  obtain rfl := Decidable.not_not.mp hl
  clear hl
  unfold ibr1 at hs
  split at hs <;> try (cases hs; done)
  rename_i x r
  obtain ⟨t, ht, hs⟩ := Option.bind_eq_some_iff.mp hs
  intro ls H locs hl hW hS
  by_cases hc : c1 .lt x = true
  · rw [if_pos hc] at hs
    cases hs
    refine lv_if_lt hx hb hdg (jmp_eq ht) (fun _ => k ls H locs hl hW hS) (fun hn => by first | exact absurd (by simpa [c1] using hc) hn | exact absurd hn (by simpa [c1] using hc))
  · rw [if_neg hc] at hs
    cases hs
    refine lv_if_lt hx hb hdg (jmp_eq ht) (fun hp => absurd (by simpa [c1] using hp) hc) (fun _ => k ls H locs hl hW hS)

theorem ax_icmp_lt (C : Cx p R s m args meth c o rt ini nL cc G cy oq old N0 L xs d) {off : Int} (hdg : decode cc pc = .ok (.if_icmp .lt off, len)) (hs : istep call o rt ini nL len pc lo st h (.if_icmp .lt off) = some (.inl cz)) (k : KK p l e R s m args below meth c nL G cy oq old N0 L xs n0 s0 Q cz) : KK p l e R s m args below meth c nL G cy oq old N0 L xs n0 s0 Q (pc, lo, st, h) := by
  obtain ⟨hx, hb, hml, hown, hts, hF, hN, hini, hlk, hrt, hfr, hlc⟩ := C
  simp only [istep] at hs
  by_cases hl : ¬ len = 3
  · rw [if_neg hl] at hs; cases hs
  rw [if_pos (Decidable.not_not.mp hl)] at hs
  obtain rfl := Decidable.not_not.mp hl
  clear hl
  unfold ibr2 at hs
  split at hs <;> try (cases hs; done)
  rename_i y x r
  obtain ⟨t, ht, hs⟩ := Option.bind_eq_some_iff.mp hs
  intro ls H locs hl hW hS
  by_cases hc : c2 .lt x y = true
  · rw [if_pos hc] at hs
    cases hs
    refine lv_icmp_lt hx hb hdg (jmp_eq ht) (fun _ => k ls H locs hl hW hS) (fun hn => by first | exact absurd (by simpa [c2] using hc) hn | exact absurd hn (by simpa [c2] using hc))
  · rw [if_neg hc] at hs
    cases hs
    refine lv_icmp_lt hx hb hdg (jmp_eq ht) (fun hp => absurd (by simpa [c2] using hp) hc) (fun _ => k ls H locs hl hW hS)

theorem ax_if_ge (C : Cx p R s m args meth c o rt ini nL cc G cy oq old N0 L xs d) {off : Int} (hdg : decode cc pc = .ok (.ifCond .ge off, len)) (hs : istep call o rt ini nL len pc lo st h (.ifCond .ge off) = some (.inl cz)) (k : KK p l e R s m args below meth c nL G cy oq old N0 L xs n0 s0 Q cz) : KK p l e R s m args below meth c nL G cy oq old N0 L xs n0 s0 Q (pc, lo, st, h) := by
  obtain ⟨hx, hb, hml, hown, hts, hF, hN, hini, hlk, hrt, hfr, hlc⟩ := C
  simp only [istep] at hs
  by_cases hl : ¬ len = 3
  · rw [if_neg hl] at hs; cases hs
  rw [if_pos (Decidable.not_not.mp hl)] at hs
  obtain rfl := Decidable.not_not.mp hl
  clear hl
  unfold ibr1 at hs
  split at hs <;> try (cases hs; done)
  rename_i x r
  obtain ⟨t, ht, hs⟩ := Option.bind_eq_some_iff.mp hs
  intro ls H locs hl hW hS
  by_cases hc : c1 .ge x = true
  · rw [if_pos hc] at hs
    cases hs
    refine lv_if_ge hx hb hdg (jmp_eq ht) (fun _ => k ls H locs hl hW hS) (fun hn => by first | exact absurd (by simpa [c1] using hc) hn | exact absurd hn (by simpa [c1] using hc))
  · rw [if_neg hc] at hs
    cases hs
    refine lv_if_ge hx hb hdg (jmp_eq ht) (fun hp => absurd (by simpa [c1] using hp) hc) (fun _ => k ls H locs hl hW hS)

theorem ax_icmp_ge (C : Cx p R s m args meth c o rt ini nL cc G cy oq old N0 L xs d) {off : Int} (hdg : decode cc pc = .ok (.if_icmp .ge off, len)) (hs : istep call o rt ini nL len pc lo st h (.if_icmp .ge off) = some (.inl cz)) (k : KK p l e R s m args below meth c nL G cy oq old N0 L xs n0 s0 Q cz) : KK p l e R s m args below meth c nL G cy oq old N0 L xs n0 s0 Q (pc, lo, st, h) := by
  obtain ⟨hx, hb, hml, hown, hts, hF, hN, hini, hlk, hrt, hfr, hlc⟩ := C
  simp only [istep] at hs
  by_cases hl : ¬ len = 3
  · rw [if_neg hl] at hs; cases hs
  rw [if_pos (Decidable.not_not.mp hl)] at hs
  obtain rfl := Decidable.not_not.mp hl
  clear hl
  unfold ibr2 at hs
  split at hs <;> try (cases hs; done)
  rename_i y x r
  obtain ⟨t, ht, hs⟩ := Option.bind_eq_some_iff.mp hs
  intro ls H locs hl hW hS
  by_cases hc : c2 .ge x y = true
  · rw [if_pos hc] at hs
    cases hs
    refine lv_icmp_ge hx hb hdg (jmp_eq ht) (fun _ => k ls H locs hl hW hS) (fun hn => by first | exact absurd (by simpa [c2] using hc) hn | exact absurd hn (by simpa [c2] using hc))
  · rw [if_neg hc] at hs
    cases hs
    refine lv_icmp_ge hx hb hdg (jmp_eq ht) (fun hp => absurd (by simpa [c2] using hp) hc) (fun _ => k ls H locs hl hW hS)

theorem ax_if_gt (C : Cx p R s m args meth c o rt ini nL cc G cy oq old N0 L xs d) {off : Int} (hdg : decode cc pc = .ok (.ifCond .gt off, len)) (hs : istep call o rt ini nL len pc lo st h (.ifCond .gt off) = some (.inl cz)) (k : KK p l e R s m args below meth c nL G cy oq old N0 L xs n0 s0 Q cz) : KK p l e R s m args below meth c nL G cy oq old N0 L xs n0 s0 Q (pc, lo, st, h) := by
  obtain ⟨hx, hb, hml, hown, hts, hF, hN, hini, hlk, hrt, hfr, hlc⟩ := C
  simp only [istep] at hs
  by_cases hl : ¬ len = 3
  · rw [if_neg hl] at hs; cases hs
  rw [if_pos (Decidable.not_not.mp hl)] at hs
  obtain rfl := Decidable.not_not.mp hl
  clear hl
  unfold ibr1 at hs
  split at hs <;> try (cases hs; done)
  rename_i x r
  obtain ⟨t, ht, hs⟩ := Option.bind_eq_some_iff.mp hs
  intro ls H locs hl hW hS
  by_cases hc : c1 .gt x = true
  · rw [if_pos hc] at hs
    cases hs
    refine lv_if_gt hx hb hdg (jmp_eq ht) (fun _ => k ls H locs hl hW hS) (fun hn => by first | exact absurd (by simpa [c1] using hc) hn | exact absurd hn (by simpa [c1] using hc))
  · rw [if_neg hc] at hs
    cases hs
    refine lv_if_gt hx hb hdg (jmp_eq ht) (fun hp => absurd (by simpa [c1] using hp) hc) (fun _ => k ls H locs hl hW hS)

theorem ax_icmp_gt (C : Cx p R s m args meth c o rt ini nL cc G cy oq old N0 L xs d) {off : Int} (hdg : decode cc pc = .ok (.if_icmp .gt off, len)) (hs : istep call o rt ini nL len pc lo st h (.if_icmp .gt off) = some (.inl cz)) (k : KK p l e R s m args below meth c nL G cy oq old N0 L xs n0 s0 Q cz) : KK p l e R s m args below meth c nL G cy oq old N0 L xs n0 s0 Q (pc, lo, st, h) := by
  obtain ⟨hx, hb, hml, hown, hts, hF, hN, hini, hlk, hrt, hfr, hlc⟩ := C
  simp only [istep] at hs
  by_cases hl : ¬ len = 3
  · rw [if_neg hl] at hs; cases hs
  rw [if_pos (Decidable.not_not.mp hl)] at hs
  obtain rfl := Decidable.not_not.mp hl
  clear hl
  unfold ibr2 at hs
  split at hs <;> try (cases hs; done)
  rename_i y x r
  obtain ⟨t, ht, hs⟩ := Option.bind_eq_some_iff.mp hs
  intro ls H locs hl hW hS
  by_cases hc : c2 .gt x y = true
  · rw [if_pos hc] at hs
    cases hs
    refine lv_icmp_gt hx hb hdg (jmp_eq ht) (fun _ => k ls H locs hl hW hS) (fun hn => by first | exact absurd (by simpa [c2] using hc) hn | exact absurd hn (by simpa [c2] using hc))
  · rw [if_neg hc] at hs
    cases hs
    refine lv_icmp_gt hx hb hdg (jmp_eq ht) (fun hp => absurd (by simpa [c2] using hp) hc) (fun _ => k ls H locs hl hW hS)

theorem ax_if_le (C : Cx p R s m args meth c o rt ini nL cc G cy oq old N0 L xs d) {off : Int} (hdg : decode cc pc = .ok (.ifCond .le off, len)) (hs : istep call o rt ini nL len pc lo st h (.ifCond .le off) = some (.inl cz)) (k : KK p l e R s m args below meth c nL G cy oq old N0 L xs n0 s0 Q cz) : KK p l e R s m args below meth c nL G cy oq old N0 L xs n0 s0 Q (pc, lo, st, h) := by
  obtain ⟨hx, hb, hml, hown, hts, hF, hN, hini, hlk, hrt, hfr, hlc⟩ := C
  simp only [istep] at hs
  by_cases hl : ¬ len = 3
  · rw [if_neg hl] at hs; cases hs
  rw [if_pos (Decidable.not_not.mp hl)] at hs
  obtain rfl := Decidable.not_not.mp hl
  clear hl
  unfold ibr1 at hs
  split at hs <;> try (cases hs; done)
  rename_i x r
  obtain ⟨t, ht, hs⟩ := Option.bind_eq_some_iff.mp hs
  intro ls H locs hl hW hS
  by_cases hc : c1 .le x = true
  · rw [if_pos hc] at hs
    cases hs
    refine lv_if_le hx hb hdg (jmp_eq ht) (fun _ => k ls H locs hl hW hS) (fun hn => by first | exact absurd (by simpa [c1] using hc) hn | exact absurd hn (by simpa [c1] using hc))
  · rw [if_neg hc] at hs
    cases hs
    refine lv_if_le hx hb hdg (jmp_eq ht) (fun hp => absurd (by simpa [c1] using hp) hc) (fun _ => k ls H locs hl hW hS)

theorem ax_icmp_le (C : Cx p R s m args meth c o rt ini nL cc G cy oq old N0 L xs d) {off : Int} (hdg : decode cc pc = .ok (.if_icmp .le off, len)) (hs : istep call o rt ini nL len pc lo st h (.if_icmp .le off) = some (.inl cz)) (k : KK p l e R s m args below meth c nL G cy oq old N0 L xs n0 s0 Q cz) : KK p l e R s m args below meth c nL G cy oq old N0 L xs n0 s0 Q (pc, lo, st, h) := by
  obtain ⟨hx, hb, hml, hown, hts, hF, hN, hini, hlk, hrt, hfr, hlc⟩ := C
  simp only [istep] at hs
  by_cases hl : ¬ len = 3
  · rw [if_neg hl] at hs; cases hs
  rw [if_pos (Decidable.not_not.mp hl)] at hs
  obtain rfl := Decidable.not_not.mp hl
  clear hl
  unfold ibr2 at hs
  split at hs <;> try (cases hs; done)
  rename_i y x r
  obtain ⟨t, ht, hs⟩ := Option.bind_eq_some_iff.mp hs
  intro ls H locs hl hW hS
  by_cases hc : c2 .le x y = true
  · rw [if_pos hc] at hs
    cases hs
    refine lv_icmp_le hx hb hdg (jmp_eq ht) (fun _ => k ls H locs hl hW hS) (fun hn => by first | exact absurd (by simpa [c2] using hc) hn | exact absurd hn (by simpa [c2] using hc))
  · rw [if_neg hc] at hs
    cases hs
    refine lv_icmp_le hx hb hdg (jmp_eq ht) (fun hp => absurd (by simpa [c2] using hp) hc) (fun _ => k ls H locs hl hW hS)

theorem ax_tableswitch (C : Cx p R s m args meth c o rt ini nL cc G cy oq old N0 L xs d) {dd lw hi : Int} {offs : Array Int} (hdg : decode cc pc = .ok (.tableswitch dd lw hi offs, len)) (hs : istep call o rt ini nL len pc lo st h (.tableswitch dd lw hi offs) = some (.inl cz)) (k : KK p l e R s m args below meth c nL G cy oq old N0 L xs n0 s0 Q cz) : KK p l e R s m args below meth c nL G cy oq old N0 L xs n0 s0 Q (pc, lo, st, h) := by
  obtain ⟨hx, hb, hml, hown, hts, hF, hN, hini, hlk, hrt, hfr, hlc⟩ := C
  simp only [istep] at hs
  split at hs <;> try (cases hs; done)
  rename_i x r
  obtain ⟨t, ht, hs⟩ := Option.bind_eq_some_iff.mp hs
  cases hs
  intro ls H locs hl hW hS
  by_cases hz : x.toInt < lw ∨ hi < x.toInt
  · rw [if_pos hz] at ht
    exact lv_tableOut hx hb hdg hz (jmp_eq ht) (k ls H locs hl hW hS)
  · rw [if_neg hz] at ht
    obtain ⟨off, ho, ht⟩ := Option.bind_eq_some_iff.mp ht
    exact lv_tableIn hx hb hdg (fun q => hz (Or.inl q)) (fun q => hz (Or.inr q)) ho (jmp_eq ht) (k ls H locs hl hW hS)

theorem ax_lookupswitch (C : Cx p R s m args meth c o rt ini nL cc G cy oq old N0 L xs d) {dd : Int} {ps : Array (Int × Int)} (hdg : decode cc pc = .ok (.lookupswitch dd ps, len)) (hs : istep call o rt ini nL len pc lo st h (.lookupswitch dd ps) = some (.inl cz)) (k : KK p l e R s m args below meth c nL G cy oq old N0 L xs n0 s0 Q cz) : KK p l e R s m args below meth c nL G cy oq old N0 L xs n0 s0 Q (pc, lo, st, h) := by
  obtain ⟨hx, hb, hml, hown, hts, hF, hN, hini, hlk, hrt, hfr, hlc⟩ := C
  simp only [istep] at hs
  split at hs <;> try (cases hs; done)
  rename_i x r
  split at hs <;> try (cases hs; done)
  rename_i hp
  obtain ⟨t, ht, hs⟩ := Option.bind_eq_some_iff.mp hs
  cases hs
  intro ls H locs hl hW hS
  exact lv_lookup hx hb hdg hp rfl (jmp_eq ht) (k ls H locs hl hW hS)

end AX

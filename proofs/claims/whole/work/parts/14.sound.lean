/-! THE ABSTRACT MACHINE IS SOUND, sixth: calls, ends, and all together -/
/-- the room of a method d calls deep -/
abbrev rmD (d mc ms : Nat) : Room := { frames := d, cells := mc, slots := ms, locals := 60 * d }
/-- what is behind a method: its answer, the cells as the abstract machine has them -/
def QC (G : va_G) (cy : Nat → ClassId) (oq : Option Nat) (old : Nat → Nat) (N0 L : Nat) (xs : Nat → Int32) (r : Rs) : Array Value → State → Outcome → State → Prop :=
  fun _ st oc t => oc = .returned (r.1.map (cvV oq (adr old N0))) ∧ Wd G cy oq old N0 L xs r.2 t.heap ∧ va_F (fun q => N0 ≤ q) st t
def PB (G : va_G) (cy : Nat → ClassId) (oq : Option Nat) (old : Nat → Nat) (N0 L : Nat) (xs : Nat → Int32) (h : Hp) : State → Prop :=
  fun U => N0 ≤ U.heap.size ∧ Wd G cy oq old N0 L xs h U.heap ∧ Fx G cy oq old N0 L xs U U.heap
/-- the contract of method y, d calls deep, at these arguments and cells -/
def CT (l : Launch) (G : va_G) (cy : Nat → ClassId) (oq : Option Nat) (old : Nat → Nat) (N0 L : Nat) (xs : Nat → Int32) (d : Nat) (call : Nat → List Value → Hp → Option Rs) : Prop :=
  ∀ (y : Nat) (av : List Value) (h : Hp) (r : Rs), call y av h = some r → ∀ e, MT[y]? = some e → y < 290 →
    Met l e.1 (Cond.code e.1 e.2.2.1 e.2.2.2.1 e.2.2.2.2.1 :: Gl) (rmD d (r.2.1 - h.1) (r.2.2.1 - h.2.1)) (va_Pc (av.map (cvV oq (adr old N0))) (PB G cy oq old N0 L xs h)) (QC G cy oq old N0 L xs r) (r.2.1 - h.1) (r.2.2.1 - h.2.1) (fun q => N0 ≤ q)
theorem PB_blind {G : va_G} {cy : Nat → ClassId} {oq : Option Nat} {old : Nat → Nat} {N0 L : Nat} {xs : Nat → Int32} {h : Hp} {av : List Value} : FrameBlind (va_Pc av (PB G cy oq old N0 L xs h)) := by
  intro a U g mk hq
  obtain ⟨h1, h2, h3, h4⟩ := hq
  have h5 : Fx G cy oq old N0 L xs (U.calling g mk a) U.heap := Fx.same (U := U) (U' := U.calling g mk a) rfl h4
  exact ⟨h1, h2, h3, h5⟩
theorem mtb_lt : mtb.all (fun q => decide (q.2.2.1 < 290)) = true := by decide +kernel
theorem ml_lt {o idx y k n p : Nat} (h : ml o idx = some (y, k, n, p)) : y < 290 := by
  unfold ml at h
  obtain ⟨q, hq, e⟩ := Option.map_eq_some_iff.mp h
  have h2 := List.all_eq_true.mp mtb_lt q (List.mem_of_find?_eq_some hq)
  have := of_decide_eq_true h2
  rw [e] at this
  exact this
theorem cat_sum (l : List Value) : (l.map fun v => v.category).sum ≤ 2 * l.length := by
  induction l with
  | nil => exact Nat.le_refl _
  | cons v r ih =>
    simp only [List.map_cons, List.sum_cons, List.length_cons]
    rcases lv_cat v with h | h <;> omega
theorem cvV_cat (oq : Option Nat) (ad : Nat → Nat) (v : Value) : (cvV oq ad v).category = v.category := by
  cases v <;> first | rfl | (cases oq <;> rfl)
theorem cat_ctw (oq : Option Nat) (ad : Nat → Nat) : ∀ l : List Value, ((l.map (cvV oq ad)).map fun v => v.category).sum = ctw l := by
  intro l
  induction l with
  | nil => rfl
  | cons v r ih =>
    simp only [List.map_cons, List.sum_cons, ctw]
    rw [ih, cvV_cat]
theorem cat_room {l : List Value} (h : ctw l ≤ 8) (oq : Option Nat) (ad : Nat → Nat) : ((l.map (cvV oq ad)).map fun v => v.category).sum ≤ 8 := by
  rw [cat_ctw]
  exact h
theorem st_split {st : List Value} {n a : Nat} (h : st[n]? = some (.ref a)) : st = st.take n ++ .ref a :: st.drop (n + 1) ∧ (st.take (n + 1)).reverse = .ref a :: (st.take n).reverse ∧ n < st.length := by
  have hl := (List.getElem?_eq_some_iff.mp h).1
  have he := (List.getElem?_eq_some_iff.mp h).2
  refine ⟨?_, ?_, hl⟩
  · conv => lhs; rw [← List.take_append_drop n st, List.drop_eq_getElem_cons hl, he]
  · rw [List.take_succ, h]
    simp
theorem wf_cls {L : Nat} {xs : Nat → Int32} {h : Hp} (w : wf L xs h) {a ci : Nat} {fs : List Value} (e : h.2.2 a = .inr (ci, fs)) : ci < 13 ∨ ci = 13 := by
  obtain ⟨w1, w2, w3, w4, w5, w6, w7⟩ := w
  rcases Nat.lt_or_ge a h.1 with q | q
  · rcases Nat.lt_or_ge a 8 with q8 | q8
    · have : a = 0 ∨ a = 1 ∨ (∃ i, i < 3 ∧ a = 2 + i) ∨ (∃ i, i < 3 ∧ a = 5 + i) := by
        by_cases h1 : a < 2
        · omega
        · by_cases h2 : a < 5
          · exact Or.inr (Or.inr (Or.inl ⟨a - 2, by omega, by omega⟩))
          · exact Or.inr (Or.inr (Or.inr ⟨a - 5, by omega, by omega⟩))
      rcases this with rfl | rfl | ⟨i, hi, rfl⟩ | ⟨i, hi, rfl⟩
      · rw [w2] at e; cases e
      · rw [w3] at e; cases e
      · rw [w4 i hi] at e; cases e; exact Or.inr rfl
      · rw [w5 i hi] at e; cases e
    · have := w7 a q8 q; rw [e] at this; simp only [okC, decide_eq_true_eq] at this; exact Or.inl this
  · rw [w6 a q] at e; cases e
section AC
variable {p : Program} {l : Launch} {e : Env} {R : Room} {s : State} {m : MethodId} {args : Array Value} {below : List Frame} {meth : Method} {c : Code} {Q : State → Prop} {o : Nat} {rt : Option FieldType} {ini : Bool} {nL : Nat} {cc : ByteArray} {G : va_G} {cy : Nat → ClassId} {oq : Option Nat} {old : Nat → Nat} {N0 L : Nat} {xs : Nat → Int32} {n0 s0 d : Nat} {len pc : Nat} {lo : Lo} {st : List Value} {h : Hp} {cz : Cf} {call : Nat → List Value → Hp → Option Rs}
/-- a call has come back -/
theorem ax_cont {ls : Array Slot} {H : Heap} {locs : List Loc} {st0 : List Value} {aa : Array Value} {r : Rs} {st' : List Value} (hl : lv_has ls nL (cvL oq (adr old N0) lo)) (hS : va_S (fun q => N0 ≤ q) s.heap H locs) (hle1 : hle h r.2) (hn0 : n0 ≤ h.1) (hs0 : s0 ≤ h.2.1)
    (hr : va_Run p l e R s m args below meth c H locs (h.1 - n0) (h.2.1 - s0) (r.2.1 - h.1) (r.2.2.1 - h.2.1) (F0 m pc ls st0) (st'.map (cvV oq (adr old N0))) (QC G cy oq old N0 L xs r aa) (fun q => N0 ≤ q))
    (k : KK p l e R s m args below meth c nL G cy oq old N0 L xs n0 s0 Q (pc + 3, lo, r.1.toList ++ st', r.2)) : W p l e R s m args below meth c H locs (h.1 - n0) (h.2.1 - s0) Q (F0 m pc ls st0) := by
  intro T hT X
  obtain ⟨v, st₀, t, T', L', h0, X', hL, e1, e2, ⟨hv, hw, hF1, hF2⟩, stp⟩ := hr T hT X
  have hv : v = r.1.map (cvV oq (adr old N0)) := by
    have := hv
    simp only [Outcome.returned.injEq] at this
    exact this
  subst hv
  rw [h0] at hF1 hF2
  have ek : h.1 - n0 + (r.2.1 - h.1) = r.2.1 - n0 := by have := hle1.1; omega
  have es : h.2.1 - s0 + (r.2.2.1 - h.2.1) = r.2.2.1 - s0 := by have := hle1.2; omega
  rw [ek, es] at X'
  have hS' : va_S (fun q => N0 ≤ q) s.heap T'.heap (locs ++ L') := ⟨Nat.le_trans hS.1 (by rw [e1]; exact hF1), fun q g1 g2 => by rw [e1, hF2 q (Nat.lt_of_lt_of_le g1 hS.1) g2]; exact hS.2.1 q g1 g2, fun q hq => by
    rcases List.mem_append.mp hq with h | h
    · exact hS.2.2 q h
    · exact hL q h⟩
  obtain ⟨t2, a1, b1⟩ := k ls T'.heap (locs ++ L') hl (by rw [e1]; exact hw) hS' T' rfl X'
  refine ⟨t2, stp t2 ?_, b1⟩
  have ee : ((r.1.toList ++ st').map (cvV oq (adr old N0))) = (r.1.map (cvV oq (adr old N0))).toList ++ st'.map (cvV oq (adr old N0)) := by
    cases r.1 <;> simp
  dsimp only at a1
  rw [ee] at a1
  exact a1
/-- the calls of methods -/
theorem ax_call (C : Cx p R s m args meth c o rt ini nL cc G cy oq old N0 L xs d) (hC : CT l G cy oq old N0 L xs d call) (hmono : ∀ y av h r, call y av h = some r → hle h r.2) {idx y kind n pp : Nat} (hq : ml o idx = some (y, kind, n, pp)) (hk : kind ≠ 6 ∧ kind ≠ 7)
    (hdg : (okV kind = true ∧ rcv h y n st = true ∧ decode cc pc = .ok (.invokevirtual idx, 3)) ∨ (okS kind = true ∧ decode cc pc = .ok (.invokestatic idx, 3)) ∨ (okI kind = true ∧ rfr n st = true ∧ decode cc pc = .ok (.invokespecial idx, 3)))
    (hs : calls call kind y n pc lo st h = some (.inl cz)) (hn0 : n0 ≤ h.1) (hs0 : s0 ≤ h.2.1) (hcb : cz.2.2.2.1 - n0 ≤ R.cells) (hsb : cz.2.2.2.2.1 - s0 ≤ R.slots)
    (k : KK p l e R s m args below meth c nL G cy oq old N0 L xs n0 s0 Q cz) : KK p l e R s m args below meth c nL G cy oq old N0 L xs n0 s0 Q (pc, lo, st, h) := by
  obtain ⟨hx, hb, hml, hown, hts, hF, hN, hini, hlk, hrt, hfr, hlc⟩ := C
  have hK := hF.2.1
  have hy := ml_lt hq
  have ok := ml_ok hq
  -- the call itself
  have hcall : ∃ r, (if kind = 1 ∨ kind = 5 then n else n + 1) ≤ st.length ∧ ctw (st.drop (if kind = 1 ∨ kind = 5 then n else n + 1)) ≤ 8 ∧ call y (st.take (if kind = 1 ∨ kind = 5 then n else n + 1)).reverse h = some r ∧ cz = (pc + 3, lo, r.1.toList ++ st.drop (if kind = 1 ∨ kind = 5 then n else n + 1), r.2) := by
    unfold calls at hs
    split at hs
    · exact absurd rfl hk.1
    · exact absurd rfl hk.2
    · dsimp only at hs
      generalize (if kind = 1 ∨ kind = 5 then n else n + 1) = q at hs ⊢
      split at hs
      · rename_i hz
        obtain ⟨r, h1, h2⟩ := Option.bind_eq_some_iff.mp hs
        cases h2
        exact ⟨r, hz.1, hz.2, h1, rfl⟩
      · cases hs
  obtain ⟨r, hq1, hq2, hcr, rfl⟩ := hcall
  have hle1 := hmono _ _ _ _ hcr
  -- the entry
  unfold okCall at ok
  dsimp only at ok
  split at ok
  · exact absurd rfl hk.1
  · exact absurd rfl hk.2
  split at ok
  · cases ok
  rename_i ee he
  simp only [Bool.and_eq_true] at ok
  obtain ⟨⟨⟨⟨⟨okn, okl⟩, oks⟩, oksel⟩, oki⟩, okk⟩ := ok
  have okm := okM_at he hy
  have hcode := code_at he hy
  simp only [okM, Bool.and_eq_true, decide_eq_true_eq] at okm
  obtain ⟨⟨⟨⟨⟨⟨⟨om1, om2⟩, om3⟩, om4⟩, om5⟩, om6⟩, om7⟩, om8⟩ := okm
  have okn := of_decide_eq_true okn
  have okk := of_decide_eq_true okk
  have hM := hC y _ h r hcr ee he hy
  have hwsG : ∀ w ∈ (Cond.code ee.1 ee.2.2.1 ee.2.2.2.1 ee.2.2.2.2.1 :: Gl), w ∈ Gl := List.forall_mem_cons.mpr ⟨hcode, fun w hw => hw⟩
  have hR : (rmD d (r.2.1 - h.1) (r.2.2.1 - h.2.1)).frames + 1 ≤ R.frames ∧ 8 + (ee.2.2.2.1 + 11) + (rmD d (r.2.1 - h.1) (r.2.2.1 - h.2.1)).locals ≤ R.locals := ⟨hfr, by show 8 + (ee.2.2.2.1 + 11) + 60 * d ≤ R.locals; omega⟩
  have hcb : r.2.1 - n0 ≤ R.cells := hcb
  have hsb : r.2.2.1 - s0 ≤ R.slots := hsb
  have hroom : h.1 - n0 + (r.2.1 - h.1) ≤ R.cells ∧ h.2.1 - s0 + (r.2.2.1 - h.2.1) ≤ R.slots := by
    have := hle1.1
    have := hle1.2
    omega
  have hpn : (parseMethodDescriptor ee.1.desc).map (fun d => d.parameters.length) = some n := by rw [om4, okn]
  have hini1 : (Cond.initialized ee.1.cls).before args s = true := hts _ (Gat_in om3)
  have pre : ∀ (H : Heap) (locs : List Loc), Wd G cy oq old N0 L xs h H → va_S (fun q => N0 ≤ q) s.heap H locs → ∀ U : State, U.heap = H → s.WarmedH U.vm → PB G cy oq old N0 L xs h U := by
    intro H locs hW hS U hU hWm
    refine ⟨by rw [hU]; exact Nat.le_trans hN hS.1, by rw [hU]; exact hW, ?_⟩
    rw [hU]
    exact Fx.warm hWm hS hF
  have hnest : ∀ w, nestW[pp]? = some w → va_Nw w s := fun w hw => hF.1 w (List.mem_of_getElem? hw)
  intro ls H locs hl hW hS
  have hP := hW.1
  rcases hdg with ⟨hkd, hrc, hdg⟩ | ⟨hkd, hdg⟩ | ⟨hkd, hrc, hdg⟩
  · -- virtual
    have hk2 : kind = 0 ∨ kind = 4 := by simpa [okV] using hkd
    have hq0 : (if kind = 1 ∨ kind = 5 then n else n + 1) = n + 1 := if_neg (by omega)
    rw [hq0] at hq1 hq2 hcr k hM
    unfold rcv at hrc
    rw [he] at hrc
    split at hrc <;> try (cases hrc; done)
    rename_i a e2 hst he2
    cases he2
    split at hrc <;> try (cases hrc; done)
    rename_i ci fs hca
    simp only [Bool.and_eq_true, decide_eq_true_eq, Bool.not_eq_true', beq_eq_false_iff_ne] at hrc
    obtain ⟨hown3, hown4⟩ := hrc
    obtain ⟨sp1, sp2, sp3⟩ := st_split hst
    have hcell : ∃ cell : Cell, H[adr old N0 a]? = some cell ∧ cell.vm.isStatics = false ∧ s.vm.findClass ee.1.cls = some cell.cls := by
      by_cases h13 : ci < 13
      · obtain ⟨h8, hn⟩ := wf_obj hW.2.2 hca h13
        have hge := wsl_get (oq := oq) (ad := adr old N0) (cy := cy) h8 hn
        rw [hca] at hge
        have := va_recv hK hP (cl_in h13) hge
        have ho : ee.2.1 = ci := by
          by_cases h15 : ee.2.1 = 15
          · rw [if_pos h15] at hown3; omega
          · rw [if_neg h15] at hown3; exact hown3.symm
        rw [om1, ho]
        exact this
      · have hle13 : ci = 13 := by
          exact (wf_cls hW.2.2 hca).resolve_left h13
        subst hle13
        obtain ⟨i, hi, rfl, -⟩ := wf_str hW.2.2 hca
        have ea : adr old N0 (2 + i) = old (2 + i) := by unfold adr; rw [if_pos (by omega)]
        have ho : ee.2.1 = 15 := by
          by_cases h15 : ee.2.1 = 15
          · exact h15
          · rw [if_neg h15] at hown3; exact absurd hown3.symm hown4
        rw [om1, ho, ea]
        exact vk_recv (i := i) hF.2.2.2.2.2.1.2 hi hS
    have hav : ((st.take (n + 1)).reverse.map (cvV oq (adr old N0))) = .ref (adr old N0 a) :: ((st.take n).map (cvV oq (adr old N0))).reverse := by
      rw [sp2, List.map_cons, List.map_reverse]; rfl
    have hpv : PreV s H ee.1.cls (adr old N0 a) (va_Pc ((st.take (n + 1)).reverse.map (cvV oq (adr old N0))) (PB G cy oq old N0 L xs h)) ((st.take n).map (cvV oq (adr old N0))).reverse :=
      ⟨PB_blind, hcell, fun U hU hWm => ⟨by rw [hav], pre H locs hW hS U hU hWm⟩⟩
    have hstk : st.map (cvV oq (adr old N0)) = ((st.take n).map (cvV oq (adr old N0))).reverse.reverse ++ .ref (adr old N0 a) :: (st.drop (n + 1)).map (cvV oq (adr old N0)) := by
      rw [List.reverse_reverse]
      conv => lhs; rw [sp1]
      rw [List.map_append, List.map_cons]; rfl
    have hlen : ((st.take n).map (cvV oq (adr old N0))).reverse.length = n := by simp; omega
    have hsel : (Cond.selects ee.1.cls ee.1 ee.1).before args s = true := by
      rw [if_pos hk2] at oksel
      exact hts _ (Gat_in oksel)
    have hins : (Cond.instanceMethod ee.1).before args s = true := by
      rw [if_neg (by omega)] at oks
      exact hts _ (Gat_in oks)
    rcases hk2 with rfl | rfl
    · rw [if_pos (Or.inl rfl)] at okl
      refine ax_cont hl hS hle1 hn0 hs0 (va_runV (rest := (st.drop (n + 1)).map (cvV oq (adr old N0))) ⟨hx, hb, hml, hown, hts⟩ hM ⟨callB_of n hts (Gl_good hwsG) rfl rfl rfl hini1 (hts _ (Gat_in okl)) ⟨om5, om6, hpn⟩ hR, hins, hsel⟩ hpv rfl hlen hl.1 hstk (lv_room (cat_room hq2 _ _)) hdg hroom) k
    · rw [if_neg (by omega)] at okl
      refine ax_cont hl hS hle1 hn0 hs0 (va_runVN (rest := (st.drop (n + 1)).map (cvV oq (adr old N0))) ⟨hx, hb, hml, hown, hts⟩ hM ⟨va_cnB n hts (Gl_good hwsG) rfl rfl rfl (hnest _ (of_decide_eq_true okl)) hini1 ⟨om5, om6, hpn⟩ hR, hins, hsel⟩ hpv rfl hlen hl.1 hstk (lv_room (cat_room hq2 _ _)) hdg hroom) k
  · -- static
    have hk2 : kind = 1 ∨ kind = 5 := by
      have : kind = 1 ∨ kind = 5 ∨ kind = 6 := by simpa [okS, or_assoc] using hkd
      omega
    have hq0 : (if kind = 1 ∨ kind = 5 then n else n + 1) = n := if_pos hk2
    rw [hq0] at hq1 hq2 hcr k hM
    have hps : PreS s H (va_Pc ((st.take n).reverse.map (cvV oq (adr old N0))) (PB G cy oq old N0 L xs h)) ((st.take n).reverse.map (cvV oq (adr old N0))) :=
      ⟨PB_blind, fun U hU hWm => ⟨rfl, pre H locs hW hS U hU hWm⟩⟩
    have hstk : st.map (cvV oq (adr old N0)) = ((st.take n).reverse.map (cvV oq (adr old N0))).reverse ++ (st.drop n).map (cvV oq (adr old N0)) := by
      rw [← List.map_reverse, List.reverse_reverse, ← List.map_append, List.take_append_drop]
    have hlen : ((st.take n).reverse.map (cvV oq (adr old N0))).length = n := by simp; omega
    have hstt : (Cond.static ee.1).before args s = true := by
      rw [if_pos hk2] at oks
      exact hts _ (Gat_in oks)
    rcases hk2 with rfl | rfl
    · rw [if_pos (Or.inr (Or.inl rfl))] at okl
      refine ax_cont hl hS hle1 hn0 hs0 (va_runS (rest := (st.drop n).map (cvV oq (adr old N0))) ⟨hx, hb, hml, hown, hts⟩ hM ⟨callB_of n hts (Gl_good hwsG) rfl rfl rfl hini1 (hts _ (Gat_in okl)) ⟨om5, om6, hpn⟩ hR, hstt⟩ hps rfl hlen hl.1 hstk (lv_room (cat_room hq2 _ _)) hdg hroom) k
    · rw [if_neg (by omega)] at okl
      refine ax_cont hl hS hle1 hn0 hs0 (va_runSN (rest := (st.drop n).map (cvV oq (adr old N0))) ⟨hx, hb, hml, hown, hts⟩ hM ⟨va_cnB n hts (Gl_good hwsG) rfl rfl rfl (hnest _ (of_decide_eq_true okl)) hini1 ⟨om5, om6, hpn⟩ hR, hstt, trivial⟩ hps rfl hlen hl.1 hstk (lv_room (cat_room hq2 _ _)) hdg hroom) k
  · -- constructors
    have hk2 : kind = 2 ∨ kind = 3 := by
      have : kind = 2 ∨ kind = 3 ∨ kind = 7 := by simpa [okI, or_assoc] using hkd
      omega
    have hq0 : (if kind = 1 ∨ kind = 5 then n else n + 1) = n + 1 := if_neg (by omega)
    rw [hq0] at hq1 hq2 hcr k hM
    unfold rfr at hrc
    split at hrc <;> try (cases hrc; done)
    rename_i a hst
    obtain ⟨sp1, sp2, sp3⟩ := st_split hst
    have hav : ((st.take (n + 1)).reverse.map (cvV oq (adr old N0))) = .ref (adr old N0 a) :: ((st.take n).map (cvV oq (adr old N0))).reverse := by
      rw [sp2, List.map_cons, List.map_reverse]; rfl
    have hps : PreS s H (va_Pc ((st.take (n + 1)).reverse.map (cvV oq (adr old N0))) (PB G cy oq old N0 L xs h)) (.ref (adr old N0 a) :: ((st.take n).map (cvV oq (adr old N0))).reverse) :=
      ⟨PB_blind, fun U hU hWm => ⟨by rw [hav], pre H locs hW hS U hU hWm⟩⟩
    have hstk : st.map (cvV oq (adr old N0)) = ((st.take n).map (cvV oq (adr old N0))).reverse.reverse ++ .ref (adr old N0 a) :: (st.drop (n + 1)).map (cvV oq (adr old N0)) := by
      rw [List.reverse_reverse]
      conv => lhs; rw [sp1]
      rw [List.map_append, List.map_cons]; rfl
    have hlen : ((st.take n).map (cvV oq (adr old N0))).reverse.length = n := by simp; omega
    have hins : (Cond.instanceMethod ee.1).before args s = true := by
      rw [if_neg (by omega)] at oks
      exact hts _ (Gat_in oks)
    rw [if_pos hk2] at oki
    simp only [Bool.and_eq_true, decide_eq_true_eq] at oki
    obtain ⟨onm, ort⟩ := oki
    rw [ort] at hM hwsG
    rcases hk2 with rfl | rfl
    · rw [if_pos (Or.inr (Or.inr rfl))] at okl
      refine ax_cont hl hS hle1 hn0 hs0 (va_runI (rest := (st.drop (n + 1)).map (cvV oq (adr old N0))) ⟨hx, hb, hml, hown, hts⟩ hM ⟨callB_of n hts (Gl_good hwsG) rfl rfl rfl hini1 (hts _ (Gat_in okl)) ⟨om5, om6, hpn⟩ hR, onm, hins⟩ hps rfl hlen hl.1 hstk (lv_room (cat_room hq2 _ _)) hdg hroom) k
    · rw [if_neg (by omega)] at okl
      refine ax_cont hl hS hle1 hn0 hs0 (va_runIN (rest := (st.drop (n + 1)).map (cvV oq (adr old N0))) ⟨hx, hb, hml, hown, hts⟩ hM ⟨va_cnB n hts (Gl_good hwsG) rfl rfl rfl (hnest _ (of_decide_eq_true okl)) hini1 ⟨om5, om6, hpn⟩ hR, onm, hins⟩ hps rfl hlen hl.1 hstk (lv_room (cat_room hq2 _ _)) hdg hroom) k
/-- Object() -/
theorem ax_objinit (C : Cx p R s m args meth c o rt ini nL cc G cy oq old N0 L xs d) {idx y n pp : Nat} (hq : ml o idx = some (y, 7, n, pp)) (hdg : decode cc pc = .ok (.invokespecial idx, 3))
    (hs : calls call 7 y n pc lo st h = some (.inl cz)) (k : KK p l e R s m args below meth c nL G cy oq old N0 L xs n0 s0 Q cz) : KK p l e R s m args below meth c nL G cy oq old N0 L xs n0 s0 Q (pc, lo, st, h) := by
  obtain ⟨hx, hb, hml, hown, hts, hF, hN, hini, hlk, hrt, hfr, hlc⟩ := C
  have ok := ml_ok hq
  unfold okCall at ok
  dsimp only at ok
  replace hs : (match st with
    | .ref a :: r => if ctw r ≤ 8 then nx (pc + 3) lo r h else none
    | _ => none) = some (.inl cz) := hs
  split at hs <;> try (cases hs; done)
  rename_i a r
  split at hs <;> try (cases hs; done)
  rename_i h4
  cases hs
  intro ls H locs hl hW hS
  exact W.objInit hx hb hown (hts _ (Gat_in ok)) (hts _ obj_in) (hts _ obc_in) rfl (by rw [hml]; exact hl.1) rfl hdg (by omega) (by
    have := cat_room h4 oq (adr old N0)
    show 2 * 0 + _ + 12 ≤ R.locals
    omega) (k ls H locs hl hW hS)
end AC

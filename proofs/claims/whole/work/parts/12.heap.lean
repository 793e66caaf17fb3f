/-! THE ABSTRACT MACHINE IS SOUND, fifth: the instructions on cells -/
theorem gf_eq {x : AC} {ci k : Nat} {v : Value} (h : gf x ci k = some v) : ∃ fs, x = .inr (ci, fs) ∧ fs[k]? = some v := by
  unfold gf at h
  split at h
  · rename_i c fs
    split at h
    · rename_i hc
      subst hc
      exact ⟨fs, rfl, h⟩
    · cases h
  · cases h
theorem pf_eq {x c : AC} {ci k : Nat} {v : Value} (h : pf x ci k v = some c) : ∃ fs, x = .inr (ci, fs) ∧ k < fs.length ∧ c = .inr (ci, fs.set k v) := by
  unfold pf at h
  split at h
  · rename_i c' fs
    split at h
    · rename_i hc
      obtain ⟨rfl, hk⟩ := hc
      cases h
      exact ⟨fs, rfl, hk, rfl⟩
    · cases h
  · cases h
theorem rdi_eq {t : Nat} {x : AC} {i v : Int32} (h : rdi t x i = some v) : ∃ t' n f, x = .inl (t', n, .inl f) ∧ (t' = t ∨ (t = 1 ∧ t' = 5)) ∧ vp_in i n ∧ v = f i.toNatClampNeg := by
  unfold rdi at h
  split at h
  · rename_i t' n f
    split at h
    · rename_i hc
      cases h
      exact ⟨t', n, f, rfl, hc.1, fun q => q.elim (fun z => absurd hc.2.1 (Int32.not_le.mpr z)) (fun z => absurd hc.2.2 (Nat.not_lt.mpr z)), rfl⟩
    · cases h
  · cases h
theorem wri_eq {t : Nat} {x c : AC} {i v : Int32} (h : wri t x i v = some c) : ∃ n f, x = .inl (t, n, .inl f) ∧ vp_in i n ∧ c = .inl (t, n, .inl (upd f i.toNatClampNeg v)) := by
  unfold wri at h
  split at h
  · rename_i t' n f
    split at h
    · rename_i hc
      obtain ⟨rfl, h1, h2⟩ := hc
      cases h
      exact ⟨n, f, rfl, fun q => q.elim (fun z => absurd h1 (Int32.not_le.mpr z)) (fun z => absurd h2 (Nat.not_lt.mpr z)), rfl⟩
    · cases h
  · cases h
theorem rdl_eq {x : AC} {i : Int32} {v : Int64} (h : rdl x i = some v) : ∃ n f, x = .inl (2, n, .inr (.inl f)) ∧ vp_in i n ∧ v = f i.toNatClampNeg := by
  unfold rdl at h
  split at h
  · rename_i t' n f
    split at h
    · rename_i hc
      obtain ⟨rfl, h1, h2⟩ := hc
      cases h
      exact ⟨n, f, rfl, fun q => q.elim (fun z => absurd h1 (Int32.not_le.mpr z)) (fun z => absurd h2 (Nat.not_lt.mpr z)), rfl⟩
    · cases h
  · cases h
theorem wrl_eq {x c : AC} {i : Int32} {v : Int64} (h : wrl x i v = some c) : ∃ n f, x = .inl (2, n, .inr (.inl f)) ∧ vp_in i n ∧ c = .inl (2, n, .inr (.inl (vp_updL f i.toNatClampNeg v))) := by
  unfold wrl at h
  split at h
  · rename_i t' n f
    split at h
    · rename_i hc
      obtain ⟨rfl, h1, h2⟩ := hc
      cases h
      exact ⟨n, f, rfl, fun q => q.elim (fun z => absurd h1 (Int32.not_le.mpr z)) (fun z => absurd h2 (Nat.not_lt.mpr z)), rfl⟩
    · cases h
  · cases h
theorem rdr_eq {x : AC} {i : Int32} {v : Option Nat} (h : rdr x i = some v) : ∃ n f, x = .inl (3, n, .inr (.inr (.inr (.inr f)))) ∧ vp_in i n ∧ v = f i.toNatClampNeg := by
  unfold rdr at h
  split at h
  · rename_i t' n f
    split at h
    · rename_i hc
      obtain ⟨rfl, h1, h2⟩ := hc
      cases h
      exact ⟨n, f, rfl, fun q => q.elim (fun z => absurd h1 (Int32.not_le.mpr z)) (fun z => absurd h2 (Nat.not_lt.mpr z)), rfl⟩
    · cases h
  · cases h
theorem wrr_eq {x c : AC} {i : Int32} {v : Nat} (h : wrr x i v = some c) : ∃ n f, x = .inl (3, n, .inr (.inr (.inr (.inr f)))) ∧ vp_in i n ∧ c = .inl (3, n, .inr (.inr (.inr (.inr (va_up f i.toNatClampNeg (some v)))))) := by
  unfold wrr at h
  split at h
  · rename_i t' n f
    split at h
    · rename_i hc
      obtain ⟨rfl, h1, h2⟩ := hc
      cases h
      exact ⟨n, f, rfl, fun q => q.elim (fun z => absurd h1 (Int32.not_le.mpr z)) (fun z => absurd h2 (Nat.not_lt.mpr z)), rfl⟩
    · cases h
  · cases h
theorem isO_eq {x : AC} {ci : Nat} (h : isO x ci = true) : ∃ fs, x = .inr (ci, fs) := by
  unfold isO at h
  split at h
  · rename_i c fs
    have := of_decide_eq_true h
    subst this
    exact ⟨fs, rfl⟩
  · cases h
theorem adr_ge {old : Nat → Nat} {N0 a : Nat} (h : 8 ≤ a) : N0 ≤ adr old N0 a := by
  unfold adr
  rw [if_neg (by omega)]
  omega
theorem wf_str {L : Nat} {xs : Nat → Int32} {h : Hp} (w : wf L xs h) {a : Nat} {fs : List Value} (e : h.2.2 a = .inr (13, fs)) : ∃ i, i < 3 ∧ a = 2 + i ∧ fs = [.ref (5 + i), .int 0] := by
  obtain ⟨w1, w2, w3, w4, w5, w6, w7⟩ := w
  rcases Nat.lt_or_ge a h.1 with q | q
  · rcases Nat.lt_or_ge a 8 with q8 | q8
    · have : a = 0 ∨ a = 1 ∨ (∃ i, i < 3 ∧ a = 2 + i) ∨ (∃ i, i < 3 ∧ a = 5 + i) := by
        by_cases h1 : a < 2
        · omega
        · by_cases h2 : a < 5
          · exact Or.inr (Or.inr (Or.inl ⟨a - 2, by omega, by omega⟩))
          · exact Or.inr (Or.inr (Or.inr ⟨a - 5, by omega, by omega⟩))
      rcases this with rfl | rfl | ⟨i, hi, rfl⟩ | ⟨i, hi, rfl⟩
      · rw [w2] at e; cases e
      · rw [w3] at e; cases e
      · rw [w4 i hi] at e; cases e; exact ⟨i, hi, rfl, rfl⟩
      · rw [w5 i hi] at e; cases e
    · have := w7 a q8 q; rw [e] at this; simp [okC] at this
  · rw [w6 a q] at e; cases e
theorem sto_i (cA : ClassId) (n j : Nat) (f : Nat → Int32) (x : Int32) : (vp_cell cA (n, .inl f)).setSlot j (.int x) = vp_cell cA (n, .inl (upd f j x)) := by
  rw [vp_cell_i, vp_cell_i, arrV_store]
  congr 1
  funext q
  by_cases hq : q = j
  · simp [updV, upd, hq]
  · simp [updV, upd, hq]
theorem sto_l (cA : ClassId) (n j : Nat) (f : Nat → Int64) (x : Int64) : (vp_cell cA (n, .inr (.inl f))).setSlot j (.long x) = vp_cell cA (n, .inr (.inl (vp_updL f j x))) := by
  rw [vp_cell_l, vp_cell_l, arrV_store]
  congr 1
  funext q
  by_cases hq : q = j
  · simp [updV, vp_updL, hq]
  · simp [updV, vp_updL, hq]
theorem sto_q (cA : ClassId) (n j : Nat) (f : Nat → Option Nat) (x : Nat) : (vp_cell cA (n, .inr (.inr (.inr (.inr f))))).setSlot j (.ref x) = vp_cell cA (n, .inr (.inr (.inr (.inr (va_up f j (some x)))))) := by
  rw [vp_cell_q, vp_cell_q, arrV_store]
  congr 1
  funext q
  by_cases hq : q = j
  · simp [updV, va_up, va_rf, hq]
  · simp [updV, va_up, hq]
theorem dfs_cv {ci : Nat} (h : ci < 13) (oq : Option Nat) (ad : Nat → Nat) : (dfs ci).map (cvV oq ad) = dfs ci := by
  have : ci = 0 ∨ ci = 1 ∨ ci = 2 ∨ ci = 3 ∨ ci = 4 ∨ ci = 5 ∨ ci = 6 ∨ ci = 7 ∨ ci = 8 ∨ ci = 9 ∨ ci = 10 ∨ ci = 11 ∨ ci = 12 := by omega
  rcases this with rfl | rfl | rfl | rfl | rfl | rfl | rfl | rfl | rfl | rfl | rfl | rfl | rfl <;> rfl
theorem fitV_cv {ty : FieldType} {v : Value} (h : fitV ty v = true) (oq : Option Nat) (ad : Nat → Nat) : narrow ty (cvV oq ad v) = cvV oq ad v ∧ fits ty (cvV oq ad v) = true := by
  cases v with
  | int x =>
    simp only [fitV, Bool.and_eq_true, decide_eq_true_eq] at h
    exact h
  | long x => exact ⟨by cases ty <;> rfl, h⟩
  | null => exact ⟨by cases ty <;> rfl, h⟩
  | ref a =>
    refine ⟨by cases ty <;> rfl, ?_⟩
    simp only [fitV] at h
    show fits ty (.ref _) = true
    cases ty <;> first | rfl | (simp [fits] at h)
  | float x => cases h
  | double x => cases h
  | retAddr x => cases h
section AH
variable {p : Program} {l : Launch} {e : Env} {R : Room} {s : State} {m : MethodId} {args : Array Value} {below : List Frame} {meth : Method} {c : Code} {Q : State → Prop} {o : Nat} {rt : Option FieldType} {ini : Bool} {nL : Nat} {cc : ByteArray} {G : va_G} {cy : Nat → ClassId} {oq : Option Nat} {old : Nat → Nat} {N0 L : Nat} {xs : Nat → Int32} {n0 s0 d : Nat} {len pc : Nat} {lo : Lo} {st : List Value} {h : Hp} {cz : Cf} {call : Nat → List Value → Hp → Option Rs}
theorem ax_getfield (C : Cx p R s m args meth c o rt ini nL cc G cy oq old N0 L xs d) {idx : Nat} (hdg : decode cc pc = .ok (.getfield idx, len)) (hs : istep call o rt ini nL len pc lo st h (.getfield idx) = some (.inl cz)) (k : KK p l e R s m args below meth c nL G cy oq old N0 L xs n0 s0 Q cz) : KK p l e R s m args below meth c nL G cy oq old N0 L xs n0 s0 Q (pc, lo, st, h) := by
  obtain ⟨hx, hb, hml, hown, hts, hF, hN, hini, hlk, hrt, hfr, hlc⟩ := C
  have hK := hF.2.1
  simp only [istep] at hs
  by_cases hl : ¬ len = 3
  · rw [if_neg hl] at hs; cases hs
  rw [if_pos (Decidable.not_not.mp hl)] at hs
  obtain rfl := Decidable.not_not.mp hl
  clear hl
  split at hs <;> try (cases hs; done)
  rename_i a r
  obtain ⟨⟨ci, kk, pp⟩, hq, hs⟩ := Option.bind_eq_some_iff.mp hs
  obtain ⟨v, hv, hs⟩ := Option.bind_eq_some_iff.mp hs
  cases hs
  intro ls H locs hl hW hS
  have ok := fl_ok hq
  simp only [okF, Bool.and_eq_true, decide_eq_true_eq] at ok
  obtain ⟨⟨ok1, ok2⟩, ok3⟩ := ok
  obtain ⟨fs, hc, hk⟩ := gf_eq hv
  obtain ⟨hP, hz, hw⟩ := id hW
  by_cases h13 : ci < 13
  · obtain ⟨h8, hn⟩ := wf_obj hw hc h13
    have he := wsl_get (oq := oq) (ad := adr old N0) (cy := cy) h8 hn
    rw [hc] at he
    exact va_get hx hb hts (ws_in h13) hown hK hP (a - 8) he (cl_in h13) kk ok3 (hts _ (Gat_in ok1)) (fun x z => z) (v := cvV oq (adr old N0) v) (by rw [List.getElem?_map, hk]; rfl) hdg (k ls H locs hl hW hS)
  · have : ci = 13 := by omega
    subst this
    obtain ⟨i, hi, rfl, rfl⟩ := wf_str hw hc
    obtain ⟨-, g2, g3, -⟩ := hF.2.2.2.2.2.1.2.1 i hi
    have ea : adr old N0 (2 + i) = old (2 + i) := by unfold adr; rw [if_pos (by omega)]
    have eb : adr old N0 (5 + i) = old (5 + i) := by unfold adr; rw [if_pos (by omega)]
    have hkk : kk = 0 ∨ kk = 1 := by
      have : NXs 13 = 2 := rfl
      omega
    show W p l e R s m args below meth c H locs _ _ Q (F0 m pc ls (.ref (adr old N0 (2 + i)) :: r.map _))
    rw [ea]
    rcases hkk with rfl | rfl
    · cases hk
      have g3 : va_OF "java/lang/String" "value" "[B" (.ref (adr old N0 (5 + i))) (old (2 + i)) (fun q => N0 ≤ q) s s.heap := by rw [eb]; exact g3
      exact vk_getf hx hb g3 hS hown (hts _ (Gat_in ok1)) (fun x z => z) hdg (k ls H locs hl hW hS)
    · cases hk
      exact vk_getf hx hb g2 hS hown (hts _ (Gat_in ok1)) (fun x z => z) hdg (k ls H locs hl hW hS)

theorem ax_putfield (C : Cx p R s m args meth c o rt ini nL cc G cy oq old N0 L xs d) {idx : Nat} (hdg : decode cc pc = .ok (.putfield idx, len)) (hs : istep call o rt ini nL len pc lo st h (.putfield idx) = some (.inl cz)) (k : KK p l e R s m args below meth c nL G cy oq old N0 L xs n0 s0 Q cz) : KK p l e R s m args below meth c nL G cy oq old N0 L xs n0 s0 Q (pc, lo, st, h) := by
  obtain ⟨hx, hb, hml, hown, hts, hF, hN, hini, hlk, hrt, hfr, hlc⟩ := C
  have hK := hF.2.1
  simp only [istep] at hs
  by_cases hl : ¬ len = 3
  · rw [if_neg hl] at hs; cases hs
  rw [if_pos (Decidable.not_not.mp hl)] at hs
  obtain rfl := Decidable.not_not.mp hl
  clear hl
  split at hs <;> try (cases hs; done)
  rename_i v a r
  obtain ⟨⟨ci, kk, pp⟩, hq, hs⟩ := Option.bind_eq_some_iff.mp hs
  split at hs <;> try (cases hs; done)
  rename_i hfit
  obtain ⟨hf1, hf2⟩ := hfit
  obtain ⟨cn, hv, hs⟩ := Option.bind_eq_some_iff.mp hs
  by_cases h8a : ¬ 8 ≤ a
  · rw [if_neg h8a] at hs; cases hs
  replace h8a := Decidable.not_not.mp h8a
  rw [if_pos h8a] at hs
  cases hs
  intro ls H locs hl hW hS
  have ok := fl_ok hq
  simp only [okF, Bool.and_eq_true, decide_eq_true_eq] at ok
  obtain ⟨⟨ok1, ok2⟩, ok3⟩ := ok
  obtain ⟨fs, hc, hk, rfl⟩ := pf_eq hv
  obtain ⟨hP, hz, hw⟩ := id hW
  have h13 : ci < 13 := by
    rcases Nat.lt_or_ge ci 13 with q | q
    · exact q
    · have : ci = 13 := by omega
      subst this
      obtain ⟨i, hi, ea, rfl⟩ := wf_str hw hc
      have h8b : (8 : Nat) ≤ 2 + i := ea ▸ h8a
      omega
  obtain ⟨h8, hn⟩ := wf_obj hw hc h13
  have he := wsl_get (oq := oq) (ad := adr old N0) (cy := cy) h8 hn
  rw [hc] at he
  have hfc := fitV_cv hf1 oq (adr old N0)
  obtain ⟨r0, h1, cell, q1, q2, q3, q4⟩ := hP (a - 8) _ he
  have hr : r0 = (ownS ci, TXs ci, NXs ci) := Option.some.inj (h1.symm.trans (cl_in h13))
  subst hr
  obtain ⟨hSl, hfcl, kC, hkC, hkind⟩ := hK.1 ci _ (cl_in h13)
  obtain ⟨cf, kf, fi, f, hi, hsl⟩ := hSl kk ok3
  have hst := (u_facts hfcl hkC (u_lays hts (ws_in h13) ok3) hi).1
  have hlay := hts _ (ws_in h13 _ (u_in_lay ok3))
  have hap := va_apart (own := ownS o) hts (ws_in h13) (tyXs ci) (ty_in h13) (nm_in h13) hK (cl_in h13)
  have hd := ty_in h13 kk ok3
  have fin : ∀ (H' : Heap), H'[adr old N0 a]? = some (cell.setSlot f.slot (cvV oq (adr old N0) v)) → H'.size = H.size → (∀ q : Nat, q ≠ adr old N0 a → H'[q]? = H[q]?) → W p l e R s m args below meth c H' (locs ++ [⟨adr old N0 a, f.slot⟩]) (h.1 - n0) (h.2.1 - s0) Q (F0 m (pc + 3) ls (r.map (cvV oq (adr old N0)))) := by
    intro H' e1 e2 e3
    rw [hsl] at e1 ⊢
    refine k ls H' _ hl (Wd_set hW h8 hn (c := .inr (ci, fs.set kk v)) (by simp [okC]; omega) ?_ e2 e3) (hS.put e2 e3 (adr_ge h8))
    refine ⟨_, cl_in h13, ?_⟩
    show t_OB _ _ _ _ _ (vp_V ((fs.set kk v).map (cvV oq (adr old N0))))
    rw [List.map_set]
    exact t_OB.to (V := updV (vp_V (fs.map (cvV oq (adr old N0)))) kk (cvV oq (adr old N0) v)) ⟨_, e1, q2, q3, t_set q4 hap ok3 _⟩ (fun j _ => vp_updV_set (by rw [List.length_map]; exact hk) _ j)
  by_cases hfin : (TXs ci kk).2.2.2 = true
  · obtain ⟨hi1, hi2⟩ := hf2 hfin
    subst hi2
    unfold u_lay at hlay
    rw [if_pos hfin] at hlay
    have hdecl := decl_in h13 kk ok3
    have hcf : m.cls = cf := by
      obtain ⟨_, _, c', _, _, _, -, -, hf', -, -, -, hown2, -⟩ := Cond.laysFinal_spec hlay
      have e1 : c' = cf := by have := hi.symm.trans hf'; simp at this; exact this.1.symm
      rw [hdecl] at hown2
      rw [← e1]; exact Option.some.inj (hown.symm.trans hown2)
    have h6 := u_fits hfcl hkC hkind (Or.inr hlay) hi hd hfc.1 hfc.2
    exact W.putFinK hx hb hown (hts _ (Gat_in ok1)) hi hst hcf (hini hi1) (by rw [q2]; exact h6) q1 q3 (by rw [hsl]; exact k2_hasslot (q4 kk ok3)) rfl rfl hdg fin
  · unfold u_lay at hlay
    rw [if_neg hfin] at hlay
    have h6 := u_store hfcl hkC hkind hlay hi hd hfc.1 hfc.2
    exact W.putK hx hb (f := f) ⟨hown, hts _ (Gat_in ok1), ⟨_, _, _, hi⟩, hst⟩ (by rw [q2]; exact h6) q1 q3 (by rw [hsl]; exact k2_hasslot (q4 kk ok3)) rfl rfl hdg fin

theorem ax_getstatic (C : Cx p R s m args meth c o rt ini nL cc G cy oq old N0 L xs d) {idx : Nat} (hdg : decode cc pc = .ok (.getstatic idx, len)) (hs : istep call o rt ini nL len pc lo st h (.getstatic idx) = some (.inl cz)) (k : KK p l e R s m args below meth c nL G cy oq old N0 L xs n0 s0 Q cz) : KK p l e R s m args below meth c nL G cy oq old N0 L xs n0 s0 Q (pc, lo, st, h) := by
  obtain ⟨hx, hb, hml, hown, hts, hF, hN, hini, hlk, hrt, hfr, hlc⟩ := C
  have hK := hF.2.1
  simp only [istep] at hs
  by_cases hl : ¬ len = 3
  · rw [if_neg hl] at hs; cases hs
  rw [if_pos (Decidable.not_not.mp hl)] at hs
  obtain rfl := Decidable.not_not.mp hl
  clear hl
  obtain ⟨⟨w, n, pp⟩, hq, hs⟩ := Option.bind_eq_some_iff.mp hs
  have ok := gl_ok hq
  obtain ⟨f1, f2, f3, f4, f5, f6, f7, f8⟩ := hF
  have ea : adr old N0 1 = old 1 := by unfold adr; rw [if_pos (by omega)]
  have key : ∀ (v : Value), va_Z (gsN w).1 (gsN w).2.1 (gsN w).2.2 v (fun q => N0 ≤ q) s s.heap → ∀ (ls : Array Slot) (H : Heap) (locs : List Loc), va_S (fun q => N0 ≤ q) s.heap H locs → W p l e R s m args below meth c H locs (h.1 - n0) (h.2.1 - s0) Q (F0 m (pc + 3) ls (v :: st.map (cvV oq (adr old N0)))) → W p l e R s m args below meth c H locs (h.1 - n0) (h.2.1 - s0) Q (F0 m pc ls (st.map (cvV oq (adr old N0)))) := by
    intro v hZ ls H locs hS kk
    unfold okG at ok
    by_cases hn : n = 0
    · rw [if_pos hn] at ok
      exact va_gets hx hb hZ hS hown (hts _ (Gat_in ok)) (fun x z => z) hdg kk
    · rw [if_neg hn] at ok
      have hm := List.mem_of_getElem? (of_decide_eq_true ok)
      exact va_getsN hx hb hZ hS hown (va_Nw.use rfl (f1 _ hm)) (fun x z => z) hdg kk
  intro ls H locs hl hW hS
  match w, hs, key with
  | 0, hs, key =>
    cases hs
    exact key _ f7 ls H locs hS (k ls H locs hl hW hS)
  | 1, hs, key =>
    cases hs
    refine key _ f5.1 ls H locs hS ?_
    rw [← ea]
    exact k ls H locs hl hW hS
  | w + 2, hs, key =>
    cases hs
    exact key _ f8 ls H locs hS (k ls H locs hl hW hS)

theorem ax_iaload (C : Cx p R s m args meth c o rt ini nL cc G cy oq old N0 L xs d) (hdg : decode cc pc = .ok (.iaload, len)) (hs : istep call o rt ini nL len pc lo st h (.iaload) = some (.inl cz)) (k : KK p l e R s m args below meth c nL G cy oq old N0 L xs n0 s0 Q cz) : KK p l e R s m args below meth c nL G cy oq old N0 L xs n0 s0 Q (pc, lo, st, h) := by
  obtain ⟨hx, hb, hml, hown, hts, hF, hN, hini, hlk, hrt, hfr, hlc⟩ := C
  have hK := hF.2.1
  simp only [istep] at hs
  by_cases hl : ¬ len = 1
  · rw [if_neg hl] at hs; cases hs
  rw [if_pos (Decidable.not_not.mp hl)] at hs
  obtain rfl := Decidable.not_not.mp hl
  clear hl
  split at hs <;> try (cases hs; done)
  rename_i i a r
  obtain ⟨v, hv, hs⟩ := Option.bind_eq_some_iff.mp hs
  cases hs
  obtain ⟨t, n, f, hc, ht, hin, rfl⟩ := rdi_eq hv
  intro ls H locs hl hW hS
  obtain ⟨hP, hz, hw⟩ := id hW
  rcases ht with rfl | ⟨-, rfl⟩
  · obtain ⟨h8, hn⟩ := wf_arr hw hc (by omega)
    have he := wsl_get (oq := oq) (ad := adr old N0) (cy := cy) h8 hn
    rw [hc] at he
    exact va_iald hx hb hK hP (a - 8) 1 he rfl hin hdg (k ls H locs hl hW hS)
  · rcases wf_old hw hc (Or.inr rfl) with ⟨-, rfl, rfl, rfl⟩ | ⟨-, rfl, rfl, rfl⟩ | ⟨i, hi, h4, -⟩
    · exact va_sld hx hb hF.2.2.2.1.1 hF.2.2.2.1.2.1 hF.2.2.2.1.2.2 hS hin hdg (k ls H locs hl hW hS)
    · exact va_ti hx hb hF.2.2.2.2.1.2 hS hin rfl hdg (k ls H locs hl hW hS)
    · omega

theorem ax_caload (C : Cx p R s m args meth c o rt ini nL cc G cy oq old N0 L xs d) (hdg : decode cc pc = .ok (.caload, len)) (hs : istep call o rt ini nL len pc lo st h (.caload) = some (.inl cz)) (k : KK p l e R s m args below meth c nL G cy oq old N0 L xs n0 s0 Q cz) : KK p l e R s m args below meth c nL G cy oq old N0 L xs n0 s0 Q (pc, lo, st, h) := by
  obtain ⟨hx, hb, hml, hown, hts, hF, hN, hini, hlk, hrt, hfr, hlc⟩ := C
  have hK := hF.2.1
  simp only [istep] at hs
  by_cases hl : ¬ len = 1
  · rw [if_neg hl] at hs; cases hs
  rw [if_pos (Decidable.not_not.mp hl)] at hs
  obtain rfl := Decidable.not_not.mp hl
  clear hl
  split at hs <;> try (cases hs; done)
  rename_i i a r
  obtain ⟨v, hv, hs⟩ := Option.bind_eq_some_iff.mp hs
  cases hs
  obtain ⟨t, n, f, hc, ht, hin, rfl⟩ := rdi_eq hv
  intro ls H locs hl hW hS
  obtain ⟨hP, hz, hw⟩ := id hW
  have ht : t = 0 := by omega
  subst ht
  obtain ⟨h8, hn⟩ := wf_arr hw hc (by omega)
  have he := wsl_get (oq := oq) (ad := adr old N0) (cy := cy) h8 hn
  rw [hc] at he
  exact va_cald hx hb hK hP (a - 8) 0 he rfl hin hdg (k ls H locs hl hW hS)

theorem ax_baload (C : Cx p R s m args meth c o rt ini nL cc G cy oq old N0 L xs d) (hdg : decode cc pc = .ok (.baload, len)) (hs : istep call o rt ini nL len pc lo st h (.baload) = some (.inl cz)) (k : KK p l e R s m args below meth c nL G cy oq old N0 L xs n0 s0 Q cz) : KK p l e R s m args below meth c nL G cy oq old N0 L xs n0 s0 Q (pc, lo, st, h) := by
  obtain ⟨hx, hb, hml, hown, hts, hF, hN, hini, hlk, hrt, hfr, hlc⟩ := C
  have hK := hF.2.1
  simp only [istep] at hs
  by_cases hl : ¬ len = 1
  · rw [if_neg hl] at hs; cases hs
  rw [if_pos (Decidable.not_not.mp hl)] at hs
  obtain rfl := Decidable.not_not.mp hl
  clear hl
  split at hs <;> try (cases hs; done)
  rename_i i a r
  obtain ⟨v, hv, hs⟩ := Option.bind_eq_some_iff.mp hs
  cases hs
  obtain ⟨t, n, f, hc, ht, hin, rfl⟩ := rdi_eq hv
  intro ls H locs hl hW hS
  obtain ⟨hP, hz, hw⟩ := id hW
  have ht : t = 4 := by omega
  subst ht
  rcases wf_old hw hc (Or.inl rfl) with ⟨h5, -⟩ | ⟨h5, -⟩ | ⟨j, hj, -, rfl, rfl, rfl⟩
  · omega
  · omega
  · obtain ⟨-, -, -, g4⟩ := hF.2.2.2.2.2.1.2.1 j hj
    have eb : adr old N0 (5 + j) = old (5 + j) := by unfold adr; rw [if_pos (by omega)]
    show W p l e R s m args below meth c H locs _ _ Q (F0 m pc ls (.int i :: .ref (adr old N0 (5 + j)) :: r.map _))
    rw [eb]
    exact va_tb hx hb g4 hS hin rfl hdg (k ls H locs hl hW hS)

theorem ax_laload (C : Cx p R s m args meth c o rt ini nL cc G cy oq old N0 L xs d) (hdg : decode cc pc = .ok (.laload, len)) (hs : istep call o rt ini nL len pc lo st h (.laload) = some (.inl cz)) (k : KK p l e R s m args below meth c nL G cy oq old N0 L xs n0 s0 Q cz) : KK p l e R s m args below meth c nL G cy oq old N0 L xs n0 s0 Q (pc, lo, st, h) := by
  obtain ⟨hx, hb, hml, hown, hts, hF, hN, hini, hlk, hrt, hfr, hlc⟩ := C
  have hK := hF.2.1
  simp only [istep] at hs
  by_cases hl : ¬ len = 1
  · rw [if_neg hl] at hs; cases hs
  rw [if_pos (Decidable.not_not.mp hl)] at hs
  obtain rfl := Decidable.not_not.mp hl
  clear hl
  split at hs <;> try (cases hs; done)
  rename_i i a r
  obtain ⟨v, hv, hs⟩ := Option.bind_eq_some_iff.mp hs
  cases hs
  obtain ⟨n, f, hc, hin, rfl⟩ := rdl_eq hv
  intro ls H locs hl hW hS
  obtain ⟨hP, hz, hw⟩ := id hW
  obtain ⟨h8, hn⟩ := wf_arr hw hc (by omega)
  have he := wsl_get (oq := oq) (ad := adr old N0) (cy := cy) h8 hn
  rw [hc] at he
  exact va_lald hx hb hK hP (a - 8) 2 he rfl hin hdg (k ls H locs hl hW hS)

theorem ax_aaload (C : Cx p R s m args meth c o rt ini nL cc G cy oq old N0 L xs d) (hdg : decode cc pc = .ok (.aaload, len)) (hs : istep call o rt ini nL len pc lo st h (.aaload) = some (.inl cz)) (k : KK p l e R s m args below meth c nL G cy oq old N0 L xs n0 s0 Q cz) : KK p l e R s m args below meth c nL G cy oq old N0 L xs n0 s0 Q (pc, lo, st, h) := by
  obtain ⟨hx, hb, hml, hown, hts, hF, hN, hini, hlk, hrt, hfr, hlc⟩ := C
  have hK := hF.2.1
  simp only [istep] at hs
  by_cases hl : ¬ len = 1
  · rw [if_neg hl] at hs; cases hs
  rw [if_pos (Decidable.not_not.mp hl)] at hs
  obtain rfl := Decidable.not_not.mp hl
  clear hl
  split at hs <;> try (cases hs; done)
  rename_i i a r
  obtain ⟨v, hv, hs⟩ := Option.bind_eq_some_iff.mp hs
  cases hs
  obtain ⟨n, f, hc, hin, rfl⟩ := rdr_eq hv
  intro ls H locs hl hW hS
  obtain ⟨hP, hz, hw⟩ := id hW
  obtain ⟨h8, hn⟩ := wf_arr hw hc (by omega)
  have he := wsl_get (oq := oq) (ad := adr old N0) (cy := cy) h8 hn
  rw [hc] at he
  refine va_aldq hx hb hK hP (a - 8) 3 he rfl hin hdg ?_
  have := k ls H locs hl hW hS
  have e : cvV oq (adr old N0) (va_rf (f i.toNatClampNeg)) = va_rf ((f i.toNatClampNeg).map (adr old N0)) := by cases f i.toNatClampNeg <;> rfl
  simp only [List.map_cons] at this
  rw [e] at this
  exact this

theorem ax_iastore (C : Cx p R s m args meth c o rt ini nL cc G cy oq old N0 L xs d) (hdg : decode cc pc = .ok (.iastore, len)) (hs : istep call o rt ini nL len pc lo st h (.iastore) = some (.inl cz)) (k : KK p l e R s m args below meth c nL G cy oq old N0 L xs n0 s0 Q cz) : KK p l e R s m args below meth c nL G cy oq old N0 L xs n0 s0 Q (pc, lo, st, h) := by
  obtain ⟨hx, hb, hml, hown, hts, hF, hN, hini, hlk, hrt, hfr, hlc⟩ := C
  have hK := hF.2.1
  simp only [istep] at hs
  by_cases hl : ¬ len = 1
  · rw [if_neg hl] at hs; cases hs
  rw [if_pos (Decidable.not_not.mp hl)] at hs
  obtain rfl := Decidable.not_not.mp hl
  clear hl
  split at hs <;> try (cases hs; done)
  rename_i x i a r
  obtain ⟨cn, hv, hs⟩ := Option.bind_eq_some_iff.mp hs
  cases hs
  obtain ⟨n, f, hc, hin, rfl⟩ := wri_eq hv
  intro ls H locs hl hW hS
  obtain ⟨hP, hz, hw⟩ := id hW
  obtain ⟨h8, hn⟩ := wf_arr hw hc (by omega)
  have he := wsl_get (oq := oq) (ad := adr old N0) (cy := cy) h8 hn
  rw [hc] at he
  refine W.iast hx hb (hP (a - 8) _ he) ((hK.2 1 _ rfl).1 n _) (fun q => by cases q) (by show ¬ (i < 0 ∨ (arrV _ _ _).slots.size ≤ _); rw [arrV_size]; exact hin) rfl rfl hdg fun H1 e1 z1 oq1 => ?_
  refine k ls H1 _ hl (Wd_set hW h8 hn (c := .inl (1, n, .inl (upd f i.toNatClampNeg x))) (by simp [okC]) ?_ z1 oq1) (hS.put z1 oq1 (adr_ge h8))
  show H1[adr old N0 a]? = some (vp_cell _ _)
  rw [e1]
  exact congrArg some (sto_i _ _ _ _ _)

theorem ax_castore (C : Cx p R s m args meth c o rt ini nL cc G cy oq old N0 L xs d) (hdg : decode cc pc = .ok (.castore, len)) (hs : istep call o rt ini nL len pc lo st h (.castore) = some (.inl cz)) (k : KK p l e R s m args below meth c nL G cy oq old N0 L xs n0 s0 Q cz) : KK p l e R s m args below meth c nL G cy oq old N0 L xs n0 s0 Q (pc, lo, st, h) := by
  obtain ⟨hx, hb, hml, hown, hts, hF, hN, hini, hlk, hrt, hfr, hlc⟩ := C
  have hK := hF.2.1
  simp only [istep] at hs
  by_cases hl : ¬ len = 1
  · rw [if_neg hl] at hs; cases hs
  rw [if_pos (Decidable.not_not.mp hl)] at hs
  obtain rfl := Decidable.not_not.mp hl
  clear hl
  split at hs <;> try (cases hs; done)
  rename_i x i a r
  obtain ⟨cn, hv, hs⟩ := Option.bind_eq_some_iff.mp hs
  cases hs
  obtain ⟨n, f, hc, hin, rfl⟩ := wri_eq hv
  intro ls H locs hl hW hS
  obtain ⟨hP, hz, hw⟩ := id hW
  obtain ⟨h8, hn⟩ := wf_arr hw hc (by omega)
  have he := wsl_get (oq := oq) (ad := adr old N0) (cy := cy) h8 hn
  rw [hc] at he
  refine W.cast hx hb (hP (a - 8) _ he) ((hK.2 0 _ rfl).1 n _) (fun q => by cases q) (by show ¬ (i < 0 ∨ (arrV _ _ _).slots.size ≤ _); rw [arrV_size]; exact hin) rfl rfl hdg fun H1 e1 z1 oq1 => ?_
  refine k ls H1 _ hl (Wd_set hW h8 hn (c := .inl (0, n, .inl (upd f i.toNatClampNeg (vp_nar .char x)))) (by simp [okC]) ?_ z1 oq1) (hS.put z1 oq1 (adr_ge h8))
  show H1[adr old N0 a]? = some (vp_cell _ _)
  rw [e1]
  exact congrArg some (sto_i _ _ _ _ _)

theorem ax_lastore (C : Cx p R s m args meth c o rt ini nL cc G cy oq old N0 L xs d) (hdg : decode cc pc = .ok (.lastore, len)) (hs : istep call o rt ini nL len pc lo st h (.lastore) = some (.inl cz)) (k : KK p l e R s m args below meth c nL G cy oq old N0 L xs n0 s0 Q cz) : KK p l e R s m args below meth c nL G cy oq old N0 L xs n0 s0 Q (pc, lo, st, h) := by
  obtain ⟨hx, hb, hml, hown, hts, hF, hN, hini, hlk, hrt, hfr, hlc⟩ := C
  have hK := hF.2.1
  simp only [istep] at hs
  by_cases hl : ¬ len = 1
  · rw [if_neg hl] at hs; cases hs
  rw [if_pos (Decidable.not_not.mp hl)] at hs
  obtain rfl := Decidable.not_not.mp hl
  clear hl
  split at hs <;> try (cases hs; done)
  rename_i x i a r
  obtain ⟨cn, hv, hs⟩ := Option.bind_eq_some_iff.mp hs
  cases hs
  obtain ⟨n, f, hc, hin, rfl⟩ := wrl_eq hv
  intro ls H locs hl hW hS
  obtain ⟨hP, hz, hw⟩ := id hW
  obtain ⟨h8, hn⟩ := wf_arr hw hc (by omega)
  have he := wsl_get (oq := oq) (ad := adr old N0) (cy := cy) h8 hn
  rw [hc] at he
  refine W.last hx hb (hP (a - 8) _ he) ((hK.2 2 _ rfl).1 n _) (fun q => by cases q) (by show ¬ (i < 0 ∨ (arrV _ _ _).slots.size ≤ _); rw [arrV_size]; exact hin) rfl rfl hdg fun H1 e1 z1 oq1 => ?_
  refine k ls H1 _ hl (Wd_set hW h8 hn (c := .inl (2, n, .inr (.inl (vp_updL f i.toNatClampNeg x)))) (by simp [okC]) ?_ z1 oq1) (hS.put z1 oq1 (adr_ge h8))
  show H1[adr old N0 a]? = some (vp_cell _ _)
  rw [e1]
  exact congrArg some (sto_l _ _ _ _ _)

theorem ax_aastore (C : Cx p R s m args meth c o rt ini nL cc G cy oq old N0 L xs d) (hdg : decode cc pc = .ok (.aastore, len)) (hs : istep call o rt ini nL len pc lo st h (.aastore) = some (.inl cz)) (k : KK p l e R s m args below meth c nL G cy oq old N0 L xs n0 s0 Q cz) : KK p l e R s m args below meth c nL G cy oq old N0 L xs n0 s0 Q (pc, lo, st, h) := by
  obtain ⟨hx, hb, hml, hown, hts, hF, hN, hini, hlk, hrt, hfr, hlc⟩ := C
  have hK := hF.2.1
  simp only [istep] at hs
  by_cases hl : ¬ len = 1
  · rw [if_neg hl] at hs; cases hs
  rw [if_pos (Decidable.not_not.mp hl)] at hs
  obtain rfl := Decidable.not_not.mp hl
  clear hl
  split at hs <;> try (cases hs; done)
  rename_i v i a r
  split at hs <;> try (cases hs; done)
  rename_i hob
  obtain ⟨cn, hv, hs⟩ := Option.bind_eq_some_iff.mp hs
  cases hs
  obtain ⟨n, f, hc, hin, rfl⟩ := wrr_eq hv
  obtain ⟨fv, hcv⟩ := isO_eq hob
  intro ls H locs hl hW hS
  obtain ⟨hP, hz, hw⟩ := id hW
  obtain ⟨h8, hn⟩ := wf_arr hw hc (by omega)
  obtain ⟨h8v, hnv⟩ := wf_obj hw hcv (by omega)
  have he := wsl_get (oq := oq) (ad := adr old N0) (cy := cy) h8 hn
  rw [hc] at he
  have hev := wsl_get (oq := oq) (ad := adr old N0) (cy := cy) h8v hnv
  rw [hcv] at hev
  have hlt : i.toNatClampNeg < n := Nat.not_le.mp fun q => hin (Or.inr q)
  have h0 : ¬ i < 0 := fun q => hin (Or.inl q)
  obtain ⟨r', hr', cellV, g1, g2, g3, -⟩ := hP (v - 8) _ hev
  have hcls := (hK.1 7 _ (cl_in (ci := 7) (by omega))).2
  obtain ⟨kA, comp, k1, k2, k3, -⟩ := (hK.2 3 _ rfl).2
  have hcomp : comp = G.1 7 := Option.some.inj (k3.symm.trans hcls.1)
  subst hcomp
  obtain ⟨kC, hkC, -⟩ := hcls.2
  refine W.aast hx hb (hP (a - 8) _ he) (fun q h => by cases h) (fun h => by cases h) k1 k2 rfl hkC ⟨h0, by show _ < (arrV _ _ _).slots.size; rw [arrV_size]; exact hlt⟩ g1 (fun q h => by rw [g3] at h; cases h) (by rw [g2]; exact hkC) (by rw [g2]; exact va_assign hcls) rfl rfl hdg fun H1 e1 z1 oq1 => ?_
  refine k ls H1 _ hl (Wd_set hW h8 hn (c := .inl (3, n, .inr (.inr (.inr (.inr (va_up f i.toNatClampNeg (some v))))))) (by simp [okC]) ?_ z1 oq1) (hS.put z1 oq1 (adr_ge h8))
  show H1[adr old N0 a]? = some (vp_cell _ (n, .inr (.inr (.inr (.inr (fun j => (va_up f i.toNatClampNeg (some v) j).map (adr old N0)))))))
  rw [e1]
  refine congrArg some ((sto_q _ _ _ _ _).trans (congrArg (fun z => vp_cell (cy 3) (n, .inr (.inr (.inr (.inr z))))) (funext fun j => ?_)))
  by_cases hj : j = i.toNatClampNeg
  · simp [va_up, hj]
  · simp [va_up, hj]

theorem ax_arraylength (C : Cx p R s m args meth c o rt ini nL cc G cy oq old N0 L xs d) (hdg : decode cc pc = .ok (.arraylength, len)) (hs : istep call o rt ini nL len pc lo st h (.arraylength) = some (.inl cz)) (k : KK p l e R s m args below meth c nL G cy oq old N0 L xs n0 s0 Q cz) : KK p l e R s m args below meth c nL G cy oq old N0 L xs n0 s0 Q (pc, lo, st, h) := by
  obtain ⟨hx, hb, hml, hown, hts, hF, hN, hini, hlk, hrt, hfr, hlc⟩ := C
  have hK := hF.2.1
  simp only [istep] at hs
  by_cases hl : ¬ len = 1
  · rw [if_neg hl] at hs; cases hs
  rw [if_pos (Decidable.not_not.mp hl)] at hs
  obtain rfl := Decidable.not_not.mp hl
  clear hl
  split at hs <;> try (cases hs; done)
  rename_i a r
  obtain ⟨v, hv, hs⟩ := Option.bind_eq_some_iff.mp hs
  cases hs
  intro ls H locs hl hW hS
  obtain ⟨hP, hz, hw⟩ := id hW
  unfold aln at hv
  split at hv
  · rename_i t n f hc
    split at hv <;> try (cases hv; done)
    rename_i ht
    cases hv
    by_cases h4 : t < 4
    · obtain ⟨h8, hn⟩ := wf_arr hw hc h4
      have he := wsl_get (oq := oq) (ad := adr old N0) (cy := cy) h8 hn
      rw [hc] at he
      have ho := hw.2.2.2.2.2.2 a h8 hn
      rw [hc] at ho
      simp only [okC, decide_eq_true_eq] at ho
      have : t = 0 ∨ t = 1 := by omega
      rcases this with rfl | rfl
      · exact va_alen hx hb hK hP (a - 8) 0 he rfl rfl hdg (k ls H locs hl hW hS)
      · exact va_alen hx hb hK hP (a - 8) 1 he rfl rfl hdg (k ls H locs hl hW hS)
    · rcases wf_old hw hc (by omega) with ⟨-, rfl, rfl, rfl⟩ | ⟨-, rfl, rfl, rfl⟩ | ⟨j, hj, -, rfl, rfl, rfl⟩
      · exact va_slen hx hb hF.2.2.2.1.1 hF.2.2.2.1.2.1 hF.2.2.2.1.2.2 hS hdg (k ls H locs hl hW hS)
      · exact va_tlen hx hb hF.2.2.2.2.1.2 hS rfl hdg (k ls H locs hl hW hS)
      · obtain ⟨-, -, -, g4⟩ := hF.2.2.2.2.2.1.2.1 j hj
        have eb : adr old N0 (5 + j) = old (5 + j) := by unfold adr; rw [if_pos (by omega)]
        show W p l e R s m args below meth c H locs _ _ Q (F0 m pc ls (.ref (adr old N0 (5 + j)) :: r.map _))
        rw [eb]
        exact va_tlen hx hb g4 hS rfl hdg (k ls H locs hl hW hS)
  · rename_i t n f hc
    split at hv <;> try (cases hv; done)
    rename_i ht
    subst ht
    cases hv
    obtain ⟨h8, hn⟩ := wf_arr hw hc (by omega)
    have he := wsl_get (oq := oq) (ad := adr old N0) (cy := cy) h8 hn
    rw [hc] at he
    exact va_alen hx hb hK hP (a - 8) 2 he rfl rfl hdg (k ls H locs hl hW hS)
  · rename_i t n f hc
    split at hv <;> try (cases hv; done)
    rename_i ht
    subst ht
    cases hv
    obtain ⟨h8, hn⟩ := wf_arr hw hc (by omega)
    have he := wsl_get (oq := oq) (ad := adr old N0) (cy := cy) h8 hn
    rw [hc] at he
    exact va_alen hx hb hK hP (a - 8) 3 he rfl rfl hdg (k ls H locs hl hW hS)
  · cases hv

theorem ax_newarray (C : Cx p R s m args meth c o rt ini nL cc G cy oq old N0 L xs d) {t : ArrayType} (hdg : decode cc pc = .ok (.newarray t, len)) (hs : istep call o rt ini nL len pc lo st h (.newarray t) = some (.inl cz)) (hn0 : n0 ≤ h.1) (hs0 : s0 ≤ h.2.1) (hcb : cz.2.2.2.1 - n0 ≤ R.cells) (hsb : cz.2.2.2.2.1 - s0 ≤ R.slots) (k : KK p l e R s m args below meth c nL G cy oq old N0 L xs n0 s0 Q cz) : KK p l e R s m args below meth c nL G cy oq old N0 L xs n0 s0 Q (pc, lo, st, h) := by
  obtain ⟨hx, hb, hml, hown, hts, hF, hN, hini, hlk, hrt, hfr, hlc⟩ := C
  have hK := hF.2.1
  simp only [istep] at hs
  by_cases hl : ¬ len = 2
  · rw [if_neg hl] at hs; cases hs
  rw [if_pos (Decidable.not_not.mp hl)] at hs
  obtain rfl := Decidable.not_not.mp hl
  clear hl
  split at hs <;> try (cases hs; done)
  rename_i n r
  split at hs <;> try (cases hs; done)
  rename_i hn
  obtain ⟨hn1, hn2⟩ := hn
  obtain ⟨cn, hv, hs⟩ := Option.bind_eq_some_iff.mp hs
  cases hs
  intro ls H locs hl hW hS
  have hneg : ¬ n < 0 := Int32.not_lt.mpr hn1
  have e1 : h.1 + 1 - n0 = h.1 - n0 + 1 := by omega
  have e2 : h.2.1 + n.toNatClampNeg - s0 = h.2.1 - s0 + n.toNatClampNeg := by omega
  have hcb : h.1 + 1 - n0 ≤ R.cells := hcb
  have hsb : h.2.1 + n.toNatClampNeg - s0 ≤ R.slots := hsb
  have fin : ∀ (H' : Heap) (cA : ClassId), okC cn = true → va_at G vwCl (H.size, cvE oq (adr old N0) cy cn) H' → H'.size = H.size + 1 → (∀ q, q < H.size → H'[q]? = H[q]?) → W p l e R s m args below meth c H' locs (h.1 - n0 + 1) (h.2.1 - s0 + n.toNatClampNeg) Q (F0 m (pc + 2) ls (.ref H.size :: r.map (cvV oq (adr old N0)))) := by
    intro H' cA hoc hat z1 o1
    obtain ⟨ea, hW'⟩ := Wd_push hW (h.2.1 + n.toNatClampNeg) hoc hat z1 o1
    rw [← ea, ← e1, ← e2]
    exact k ls H' locs hl hW' ⟨Nat.le_trans hS.1 (by omega), fun q g1 g2 => (o1 q (Nat.lt_of_lt_of_le g1 hS.1)).trans (hS.2.1 q g1 g2), hS.2.2⟩
  cases t <;> try (cases hv; done)
  · cases hv
    refine va_newaK hx hb (atype := .char) (hts _ arrC_in) rfl hdg rfl hneg rfl (by show n.toNatClampNeg * 2 ≤ _; omega) (by show h.1 - n0 + 1 ≤ R.cells; omega) (by show h.2.1 - s0 + n.toNatClampNeg ≤ R.slots; omega) rfl fun H1 cA g1 z1 o1 hAr hNm => ?_
    have ecA : cA = cy 0 := Option.some.inj (hNm.symm.trans (va_nm_char (hK.2 0 _ rfl).2))
    subst ecA
    exact fin H1 (cy 0) rfl g1 z1 o1
  · cases hv
    refine va_newaK hx hb (atype := .int) (hts _ arrI_in) rfl hdg rfl hneg rfl (by show n.toNatClampNeg * 4 ≤ _; omega) (by show h.1 - n0 + 1 ≤ R.cells; omega) (by show h.2.1 - s0 + n.toNatClampNeg ≤ R.slots; omega) rfl fun H1 cA g1 z1 o1 hAr hNm => ?_
    have ecA : cA = cy 1 := Option.some.inj (hNm.symm.trans (va_nm_int (hK.2 1 _ rfl).2))
    subst ecA
    exact fin H1 (cy 1) rfl g1 z1 o1
  · cases hv
    refine va_newaK hx hb (atype := .long) (hts _ arrJ_in) rfl hdg rfl hneg rfl (by show n.toNatClampNeg * 8 ≤ _; omega) (by show h.1 - n0 + 1 ≤ R.cells; omega) (by show h.2.1 - s0 + n.toNatClampNeg ≤ R.slots; omega) rfl fun H1 cA g1 z1 o1 hAr hNm => ?_
    have ecA : cA = cy 2 := Option.some.inj (hNm.symm.trans (va_nm_long (hK.2 2 _ rfl).2))
    subst ecA
    exact fin H1 (cy 2) rfl g1 z1 o1

theorem ax_anewarray (C : Cx p R s m args meth c o rt ini nL cc G cy oq old N0 L xs d) {idx : Nat} (hdg : decode cc pc = .ok (.anewarray idx, len)) (hs : istep call o rt ini nL len pc lo st h (.anewarray idx) = some (.inl cz)) (hn0 : n0 ≤ h.1) (hs0 : s0 ≤ h.2.1) (hcb : cz.2.2.2.1 - n0 ≤ R.cells) (hsb : cz.2.2.2.2.1 - s0 ≤ R.slots) (k : KK p l e R s m args below meth c nL G cy oq old N0 L xs n0 s0 Q cz) : KK p l e R s m args below meth c nL G cy oq old N0 L xs n0 s0 Q (pc, lo, st, h) := by
  obtain ⟨hx, hb, hml, hown, hts, hF, hN, hini, hlk, hrt, hfr, hlc⟩ := C
  have hK := hF.2.1
  simp only [istep] at hs
  by_cases hl : ¬ len = 3
  · rw [if_neg hl] at hs; cases hs
  rw [if_pos (Decidable.not_not.mp hl)] at hs
  obtain rfl := Decidable.not_not.mp hl
  clear hl
  split at hs <;> try (cases hs; done)
  rename_i n r
  obtain ⟨⟨ci, p1, p2, p3⟩, hq, hs⟩ := Option.bind_eq_some_iff.mp hs
  split at hs <;> try (cases hs; done)
  rename_i hn
  obtain ⟨rfl, hn1, hn2⟩ := hn
  cases hs
  intro ls H locs hl hW hS
  have ok := cl_ok hq
  simp only [okCl, Bool.and_eq_true, decide_eq_true_eq] at ok
  obtain ⟨⟨⟨ok1, ok2⟩, ok3⟩, ok4⟩ := ok
  have hneg : ¬ n < 0 := Int32.not_lt.mpr hn1
  have e1 : h.1 + 1 - n0 = h.1 - n0 + 1 := by omega
  have e2 : h.2.1 + n.toNatClampNeg - s0 = h.2.1 - s0 + n.toNatClampNeg := by omega
  have hcb : h.1 + 1 - n0 ≤ R.cells := hcb
  have hsb : h.2.1 + n.toNatClampNeg - s0 ≤ R.slots := hsb
  refine W.anew hx hb hown (hts _ (Gat_in ok1)) (va_AO.use hF.2.2.1) rfl hdg rfl hneg (by omega) (by show h.1 - n0 + 1 ≤ R.cells; omega) (by show h.2.1 - s0 + n.toNatClampNeg ≤ R.slots; omega) fun cA kA comp f1 f2 f3 f4 => ?_
  obtain ⟨_, _, -, -, -, hNm⟩ := (hK.2 3 _ rfl).2
  have ecA : cA = cy 3 := Option.some.inj (f1.symm.trans hNm)
  subst ecA
  generalize hH1 : H.push ({ cls := cy 3, slots := Array.replicate n.toNatClampNeg .null, vm := .none } : Cell) = H1
  have z1 : H1.size = H.size + 1 := by rw [← hH1, Array.size_push]
  have g1 : H1[H.size]? = some (arrV (cy 3) n.toNatClampNeg (fun _ => .null)) := by rw [← hH1, Array.getElem?_push_size, ← arrV_new]
  have o1 : ∀ q : Nat, q < H.size → H1[q]? = H[q]? := fun q hq => by rw [← hH1, Array.getElem?_push, if_neg (Nat.ne_of_lt hq)]
  obtain ⟨ea, hW'⟩ := Wd_push hW (h.2.1 + n.toNatClampNeg) (c := .inl (3, n.toNatClampNeg, .inr (.inr (.inr (.inr (fun _ => none)))))) rfl (show H1[H.size]? = some (vp_cell _ _) by rw [g1]; rfl) z1 o1
  show W p l e R s m args below meth c H1 locs (h.1 - n0 + 1) (h.2.1 - s0 + n.toNatClampNeg) Q (F0 m (pc + 3) ls (.ref H.size :: r.map (cvV oq (adr old N0))))
  rw [← ea, ← e1, ← e2]
  exact k ls H1 locs hl hW' ⟨Nat.le_trans hS.1 (by omega), fun q g1 g2 => (o1 q (Nat.lt_of_lt_of_le g1 hS.1)).trans (hS.2.1 q g1 g2), hS.2.2⟩

theorem ax_new (C : Cx p R s m args meth c o rt ini nL cc G cy oq old N0 L xs d) {idx : Nat} (hdg : decode cc pc = .ok (.new idx, len)) (hs : istep call o rt ini nL len pc lo st h (.new idx) = some (.inl cz)) (hn0 : n0 ≤ h.1) (hs0 : s0 ≤ h.2.1) (hcb : cz.2.2.2.1 - n0 ≤ R.cells) (hsb : cz.2.2.2.2.1 - s0 ≤ R.slots) (k : KK p l e R s m args below meth c nL G cy oq old N0 L xs n0 s0 Q cz) : KK p l e R s m args below meth c nL G cy oq old N0 L xs n0 s0 Q (pc, lo, st, h) := by
  obtain ⟨hx, hb, hml, hown, hts, hF, hN, hini, hlk, hrt, hfr, hlc⟩ := C
  have hK := hF.2.1
  simp only [istep] at hs
  by_cases hl : ¬ len = 3
  · rw [if_neg hl] at hs; cases hs
  rw [if_pos (Decidable.not_not.mp hl)] at hs
  obtain rfl := Decidable.not_not.mp hl
  clear hl
  obtain ⟨⟨ci, p1, p2, p3⟩, hq, hs⟩ := Option.bind_eq_some_iff.mp hs
  split at hs <;> try (cases hs; done)
  rename_i h13
  have h13 : ci < 13 := h13
  cases hs
  intro ls H locs hl hW hS
  have ok := cl_ok hq
  simp only [okCl, Bool.and_eq_true, decide_eq_true_eq] at ok
  obtain ⟨⟨⟨ok1, ok2⟩, ok3⟩, ok4⟩ := ok
  have e1 : h.1 + 1 - n0 = h.1 - n0 + 1 := by omega
  have e2 : h.2.1 + NXs ci - s0 = h.2.1 - s0 + NXs ci := by omega
  have hcb : h.1 + 1 - n0 ≤ R.cells := hcb
  have hsb : h.2.1 + NXs ci - s0 ≤ R.slots := hsb
  have hKn := hK.1 ci _ (cl_in h13)
  refine W.newcK hx hb hown (hts _ (Gat_in ok1)) (hts _ (Gat_in ok2)) (hts _ (Gat_in ok3)) rfl hdg (by show h.1 - n0 + 1 ≤ R.cells; omega) (by show h.2.1 - s0 + NXs ci ≤ R.slots; omega) hKn.2.1 rfl fun H1 kC hkC g1 z1 o1 => ?_
  obtain ⟨ea, hW'⟩ := Wd_push hW (h.2.1 + NXs ci) (c := .inr (ci, dfs ci)) (by simp [okC]; omega) (H1 := H1) (by
    refine ⟨_, cl_in h13, ?_⟩
    show t_OB _ _ _ _ _ (vp_V ((dfs ci).map (cvV oq (adr old N0))))
    rw [dfs_cv h13]
    exact (u_born (tyXs ci) hts (ws_in h13) hKn hkC g1 (ty_in h13)).to (dfs_in h13)) z1 o1
  show W p l e R s m args below meth c H1 locs (h.1 - n0 + 1) (h.2.1 - s0 + NXs ci) Q (F0 m (pc + 3) ls (.ref H.size :: st.map (cvV oq (adr old N0))))
  rw [← ea, ← e1, ← e2]
  exact k ls H1 locs hl hW' ⟨Nat.le_trans hS.1 (by omega), fun q g1 g2 => (o1 q (Nat.lt_of_lt_of_le g1 hS.1)).trans (hS.2.1 q g1 g2), hS.2.2⟩

end AH

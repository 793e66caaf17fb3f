/-! THE CLAIM OUT OF ONE WALK OF THE LAW'S BODY. Your part is whole_start (and what it stands on); all else here is the same for every law, but numbers. -/
def R_law : String := "MoodBreadLaw"
def lw_P (b : Addr) (xs : List Int32) (args : Array Value) (s : State) : Prop := args = #[.ref b] ∧ s.IntsAt b xs ∧ xs.length ≤ 3584 ∧ (Jvm.Cond.and given_1 narrow_1).before args s = true
def lw_Q (_ : Array Value) (s : State) (o : Outcome) (t : State) : Prop := o = .returned (some (.int 1)) ∧ Framed s o t [] 600000 7302250
def lw_Z (below : List Frame) (a : Array Value) (s : State) : State → Prop := fun t => ∃ o, t.status = .running ∧ Ended t below o ∧ lw_Q a s o t
/-- the law's own end, with 1 on the stack, nothing written that was there before, its room as the claim has it -/
theorem lw_ret {p : Program} {l : Launch} {e : Env} {s : State} {m : MethodId} {below : List Frame} {meth : Method} {c : Code} {b : Nat} (hx : p.tables.exec = Jvm.exec) (hb : c.code = code) (hr : meth.sig.returnType = ret) (hlocks : meth.locks = false) {pc : Nat} {H : Heap} {ls : Array Slot} (hdg : decode code pc = .ok (.ireturn, 1)) : W p l e room_1 s m #[Value.ref b] below meth c H [] 600000 7302250 (lw_Z below #[Value.ref b] s) (F0 m pc ls [.int 1]) := by
  intro T hT X
  obtain ⟨fs, hret, hrun, hended, hW, hframe⟩ := X.leave (v := some (.int 1)) (hlocks := hlocks) (fun h => by rw [hr] at h; cases h)
  have hmeth' : T.vm.method? m = some meth := X.method'
  refine ⟨T.setFrames fs, ?_, .returned (some (.int 1)), hrun, hended, rfl, ⟨_, rfl⟩, hW, hframe⟩
  jvm_step X.here [X.here.top, hx, hb, hdg, hmeth', hr, ret, narrow_b1]
  (try refine ⟨rfl, ?_⟩); (try refine ⟨rfl, ?_⟩)
  first | (intro acts; rw [hret _ acts rfl rfl rfl]) | rw [hret _ _ rfl rfl rfl]
  exact Steps.refl _
/-- what holds at the law's entry: the machine, the code, the tables' words (any of lw_tbl by 'hts w (by decide +kernel)'), the script of L ints xs at the cell b, what the Statement gives of the start (any of its parts by flat_of_before) -/
def lw_At (p : Program) (s : State) (m : MethodId) (meth : Method) (c : Code) (b L : Nat) (xs : Nat → Int32) : Prop :=
  p.tables.exec = Jvm.exec ∧ c.code = code ∧ meth.sig.returnType = ret ∧ c.maxLocals = 4 ∧ s.vm.findClass R_law = some m.cls ∧ (∀ w ∈ lw_tbl, w.before #[Value.ref b] s = true) ∧ va_X b L xs s s.heap ∧ b < s.heap.size ∧ meth.locks = false ∧ (Jvm.Cond.and given_1 narrow_1).before #[Value.ref b] s = true
/-- the law's walk, out of what the abstract machine answers -/
theorem whole_of (hOwed : Owed 3584) {p : Program} {e : Env} {s : State} {m : MethodId} {below : List Frame} {meth : Method} {c : Code} (l : Launch) {b L : Nat} {xs : Nat → Int32} (hL : L ≤ 3584) (C0 : lw_At p s m meth c b L xs) : W p l e room_1 s m #[Value.ref b] below meth c s.heap [] 0 0 (lw_Z below #[Value.ref b] s) (entryFrame m ([Value.ref b] : List Value).toArray 4) := by
  obtain ⟨hx, hb, hr, hml, hown, hts, hX, hbl, hlocks, hgv⟩ := C0
  obtain ⟨G, cy, oq, old, ho, hF⟩ := Fx_start hts hX hbl hgv
  obtain ⟨hE, hrun, hc1, hc2⟩ := hOwed L xs hL
  obtain ⟨n, hn⟩ := Rn_iff.mp hrun
  have C : Cx p room_1 s m #[Value.ref b] meth c 19 (some .boolean) false 4 cL_law G cy oq old s.heap.size L xs 100 :=
    ⟨hx, hb, hml, hown, fun w hw => hts w (List.mem_filter.mp hw).1, hF, Nat.le_refl _, (fun h => by cases h), hlocks, hr, Nat.le_of_ble_eq_true rfl, Nat.le_of_ble_eq_true rfl⟩
  have k := ax_runQ (Q := lw_Z below #[Value.ref b] s) (l := l) (e := e) (below := below) (n0 := 8) (s0 := 0) C (ax_sound l G cy oq old s.heap.size L xs 100) (X_mono 100) n _ _ ?_ hn (Nat.le_refl _) (Nat.le_refl _) (Nat.le_trans (Nat.sub_le _ _) hc1) hc2
  · rw [lg_entry_eq]
    have hl := lv_entry ([.ref b]) (n := 4) (Nat.le_of_ble_eq_true rfl)
    have hl2 : lv_has ((lg_sl ([.ref b]) ++ List.replicate (4 - (lg_sl ([.ref b])).length) Slot.unset).toArray) 4 (cvL oq (adr old s.heap.size) [(0, .ref 0)]) := by
      have e0 : adr old s.heap.size 0 = b := by unfold adr; rw [if_pos (by omega)]; exact ho
      show lv_has _ 4 [(0, .ref (adr old s.heap.size 0))]
      rw [e0]
      exact hl
    exact k _ s.heap [] hl2 ⟨fun q x h => by simp [wsl, h0] at h, rfl, wf_h0 L xs⟩ va_S.rf
  · intro pc lo st h i len hdg hs g
    rcases g with rfl | rfl | rfl
    · simp only [istep] at hs
      by_cases hlen : ¬ len = 1
      · rw [if_neg hlen] at hs; cases hs
      obtain rfl := Decidable.not_not.mp hlen
      rw [if_pos rfl] at hs
      split at hs <;> try (cases hs; done)
      rename_i ty v hrt2
      split at hs <;> try (cases hs; done)
      rename_i hnr
      cases hs
      intro ls H locs hl hW hS
      refine W.widen (k := 600000) (n := 7302250) (Nat.le_trans (Nat.sub_le _ _) hc1) (Nat.le_trans (Nat.sub_le _ _) hc2) ?_
      refine va_forget hS.2.2 ?_
      exact lw_ret hx hb hr hlocks hdg
    · simp only [istep] at hs
      by_cases hlen : ¬ len = 1
      · rw [if_neg hlen] at hs; cases hs
      obtain rfl := Decidable.not_not.mp hlen
      rw [if_pos rfl] at hs
      cases hs
    · simp only [istep] at hs
      by_cases hlen : ¬ len = 1
      · rw [if_neg hlen] at hs; cases hs
      obtain rfl := Decidable.not_not.mp hlen
      rw [if_pos rfl] at hs
      cases hs

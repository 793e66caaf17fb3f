/-! a town told is as towns are, purely -/
def wfB (B : BT) : Prop := wfT B.1 ∧ (∀ p m : Int, 0 ≤ p → p < np B.1 → 0 ≤ m → m < nm B.1 → 0 ≤ B.2.2.1 p m ∧ B.2.2.1 p m ≤ 99) ∧ (∀ l : Int, 0 ≤ l → l < nl B.1 → 1 ≤ B.2.2.2 l ∧ B.2.2.2 l < 2 ^ np B.1 ∧ pop (B.2.2.2 l) ≤ 3)
theorem wfB_bd {B : BT} (h : wfB B) : bdB B := ⟨h.1.1, h.1.2.1, h.1.2.2.1, h.1.2.2.2.1, h.1.2.2.2.2.1⟩
theorem wfB_0 : wfB B0 := by
  have e1 : ((np B0.1 : Nat) : Int) = 0 := rfl
  have e2 : ((nl B0.1 : Nat) : Int) = 0 := rfl
  have e3 : ((ne B0.1 : Nat) : Int) = 0 := rfl
  have e4 : nd B0.1 = 0 := rfl
  refine ⟨⟨by show 0 ≤ 4; omega, by show 0 ≤ 8; omega, by show 0 ≤ 6; omega, by show 0 ≤ 16; omega, by show 0 ≤ 6; omega, fun l l0 l1 => by omega, fun i i0 i1 => by omega, fun d hd => by omega, Or.inl rfl, Or.inl rfl, by show (0 : Int) ≤ 5 ∧ (5 : Int) < 24; omega, by show (0 : Int) ≤ 18 ∧ (18 : Int) < 24; omega, by show (0 : Int) ≤ 0; omega, by show (0 : Int) ≤ 99; omega⟩, fun p m p0 p1 => by omega, fun l l0 l1 => by omega⟩
section
variable {g : Int → Int} {k : Nat}
theorem knF_wf {B : BT} (hnp : np B.1 ≤ 8) : ∀ {r : Nat} {who : Int} {p q : Ps} {u : Int}, p.1 ≤ k → knF g k B r who p = .inl (q, u) → 0 ≤ who → who < 2 ^ np B.1 → pop who + r ≤ 3 → 1 ≤ u ∧ u < 2 ^ np B.1 ∧ pop u ≤ 3 := by
  intro r
  induction r with
  | zero => intro who p q u he h; cases h
  | succ r ih =>
    intro who p q u he h h0 h1 h3
    simp only [knF] at h
    rcases bz_cases (onF g k 1 p B) (fun x => if bt who x.1 = 1 then (.inr (3, skp g k p.1) : (Ps × Int) ⊕ Fz) else (if tkJ g k x.2.1 x.2.2 = 1 then knF g k B r (who + 2 ^ x.1) x.2 else .inl (x.2, who + 2 ^ x.1))) with ⟨x, h1', h2⟩ | ⟨x, h1', h2⟩
    · rw [h2] at h
      obtain ⟨j, q1⟩ := x
      obtain ⟨a1, a2, a3, a4, a5⟩ := onF_in he h1'
      have a4' : j < np B.1 := a4
      dsimp only at h
      split at h
      · cases h
      · rename_i hb
        obtain ⟨b1, b2, b3, b4, b5, b6⟩ := who_add h0 h1 hnp a4' hb
        split at h
        · exact ih a3 h b2 b3 (by rw [b4]; omega)
        · cases h
          exact ⟨b5, b3, by rw [b4]; omega⟩
    · rw [h2] at h
      cases h
theorem evX_ty {wh tag : Nat} {p : Ps} {e' : Nat} {nb' : Bool} {cs : List Nat} (ht : tag = 0 ∨ tag = 5) (he : p.1 ≤ k) (h : evX g k wh tag p = .inl (e', nb', cs)) : tycs wh cs [] = some [tyT tag] := by
  have hev := evX_eq (g := g) (k := k) (wh := wh) (tag := tag) (p := p) (by omega) he
  rw [h] at hev
  rcases ht with rfl | rfl
  · exact ev_ty hev (by omega) he [] (by decide)
  · exact ev_ty hev (by omega) he [] (by decide)
theorem ty_ne {wh : Nat} {cs : List Nat} {b : Bool} (h : tycs wh cs [] = some [b]) : ¬ cs = [] := fun e => by
  rw [e] at h
  cases h
theorem wf_setC {B : BT} {j : Nat} {cs : List Nat} (h : wfB B) (hj : j = 6 ∨ j = 7) (hc : tycs 0 cs [] = some [false]) : wfB (setC j cs B) := by
  obtain ⟨⟨w1, w2, w3, w4, w5, w6, w7, w8, w9, w10, w11, w12, w13⟩, h2, h3⟩ := h
  refine ⟨⟨w1, w2, w3, w4, w5, w6, w7, fun d hd => ?_, ?_, ?_, w11, w12, w13⟩, h2, h3⟩
  · have hd' : d < nd B.1 := hd
    show tycs 1 (if d = j then cs else tc B.1 d) [] = some [true]
    rw [if_neg (by omega)]
    exact w8 d hd'
  · show (if 6 = j then cs else tc B.1 6) = [] ∨ tycs 0 (if 6 = j then cs else tc B.1 6) [] = some [false]
    by_cases q : 6 = j
    · rw [if_pos q]; exact Or.inr hc
    · rw [if_neg q]; exact w9
  · show (if 7 = j then cs else tc B.1 7) = [] ∨ tycs 0 (if 7 = j then cs else tc B.1 7) [] = some [false]
    by_cases q : 7 = j
    · rw [if_pos q]; exact Or.inr hc
    · rw [if_neg q]; exact w10
theorem wf_deed {B : BT} {L : List Nat} {cs : List Nat} (h : wfB B) (hn : nd B.1 < 6) (hc : tycs 1 cs [] = some [true]) : wfB (setC (nd B.1) cs (adN 3 L B)) := by
  obtain ⟨⟨w1, w2, w3, w4, w5, w6, w7, w8, w9, w10, w11, w12, w13⟩, h2, h3⟩ := h
  refine ⟨⟨w1, w2, w3, w4, by show nd B.1 + 1 ≤ 6; omega, w6, w7, fun d hd => ?_, ?_, ?_, w11, w12, w13⟩, h2, h3⟩
  · have hd' : d < nd B.1 + 1 := hd
    show tycs 1 (if d = nd B.1 then cs else tc B.1 d) [] = some [true]
    by_cases q : d = nd B.1
    · rw [if_pos q]; exact hc
    · rw [if_neg q]; exact w8 d (by omega)
  · show (if 6 = nd B.1 then cs else tc B.1 6) = [] ∨ tycs 0 (if 6 = nd B.1 then cs else tc B.1 6) [] = some [false]
    rw [if_neg (by omega)]; exact w9
  · show (if 7 = nd B.1 then cs else tc B.1 7) = [] ∨ tycs 0 (if 7 = nd B.1 then cs else tc B.1 7) [] = some [false]
    rw [if_neg (by omega)]; exact w10
theorem wf_mood {B : BT} {L : List Nat} (h : wfB B) (hn : nm B.1 < 4) (h0 : ¬ 0 < np B.1) : wfB (adN 0 L B) := by
  obtain ⟨⟨w1, w2, w3, w4, w5, w6, w7, w8, w9, w10, w11, w12, w13⟩, h2, h3⟩ := h
  exact ⟨⟨by show nm B.1 + 1 ≤ 4; omega, w2, w3, w4, w5, w6, w7, w8, w9, w10, w11, w12, w13⟩, fun p m p0 p1 => by have p1' : p < (np B.1 : Nat) := p1; omega, h3⟩
theorem wf_person {B : BT} {L : List Nat} {N : Int → Int → Int} (h : wfB B) (hn : np B.1 < 8) (hN : ∀ a b : Int, (a = np B.1 ∧ ((0 : Nat) : Int) ≤ b ∧ b < ((0 : Nat) : Int) + (nm B.1 : Nat) → 0 ≤ N a b ∧ N a b ≤ 99) ∧ (¬ (a = np B.1 ∧ ((0 : Nat) : Int) ≤ b ∧ b < ((0 : Nat) : Int) + (nm B.1 : Nat)) → N a b = B.2.2.1 a b)) : wfB (setP N (adN 1 L B)) := by
  obtain ⟨⟨w1, w2, w3, w4, w5, w6, w7, w8, w9, w10, w11, w12, w13⟩, h2, h3⟩ := h
  refine ⟨⟨w1, by show np B.1 + 1 ≤ 8; omega, w3, w4, w5, w6, fun i i0 i1 => ?_, w8, w9, w10, w11, w12, w13⟩, fun p m p0 p1 m0 m1 => ?_, fun l l0 l1 => ?_⟩
  · obtain ⟨a1, a2, a3⟩ := w7 i i0 i1
    exact ⟨⟨a1.1, by show tea B.1 i < ((np B.1 + 1 : Nat) : Int); have := a1.2; omega⟩, a2, a3⟩
  · have p1' : p < ((np B.1 + 1 : Nat) : Int) := p1
    have m1' : m < (nm B.1 : Nat) := m1
    show 0 ≤ N p m ∧ N p m ≤ 99
    by_cases q : p = (np B.1 : Nat)
    · exact (hN p m).1 ⟨q, by omega, by omega⟩
    · rw [(hN p m).2 (fun h => q h.1)]
      exact h2 p m p0 (by omega) m0 m1'
  · obtain ⟨a1, a2, a3⟩ := h3 l l0 l1
    refine ⟨a1, ?_, a3⟩
    show B.2.2.2 l < 2 ^ (np B.1 + 1)
    have : (2 : Int) ^ np B.1 ≤ 2 ^ (np B.1 + 1) := pow_le2 (by omega)
    omega
theorem wf_loaf {B : BT} {L : List Nat} {lv u : Int} (h : wfB B) (hn : nl B.1 < 6) (hl : 0 ≤ lv ∧ lv ≤ 100) (hu : 1 ≤ u ∧ u < 2 ^ np B.1 ∧ pop u ≤ 3) : wfB (setLf (nl B.1) lv u (adN 2 L B)) := by
  obtain ⟨⟨w1, w2, w3, w4, w5, w6, w7, w8, w9, w10, w11, w12, w13⟩, h2, h3⟩ := h
  refine ⟨⟨w1, w2, by show nl B.1 + 1 ≤ 6; omega, w4, w5, fun l l0 l1 => ?_, fun i i0 i1 => ?_, w8, w9, w10, w11, w12, w13⟩, h2, fun l l0 l1 => ?_⟩
  · have l1' : l < ((nl B.1 + 1 : Nat) : Int) := l1
    show 0 ≤ (if l = (nl B.1 : Nat) then lv else tlv B.1 l) ∧ (if l = (nl B.1 : Nat) then lv else tlv B.1 l) ≤ 100
    by_cases q : l = (nl B.1 : Nat)
    · rw [if_pos q]; exact hl
    · rw [if_neg q]; exact w6 l l0 (by omega)
  · obtain ⟨a1, a2, a3⟩ := w7 i i0 i1
    exact ⟨a1, ⟨a2.1, by show ten B.1 i < ((nl B.1 + 1 : Nat) : Int); have := a2.2; omega⟩, a3⟩
  · have l1' : l < ((nl B.1 + 1 : Nat) : Int) := l1
    show 1 ≤ (if l = (nl B.1 : Nat) then u else B.2.2.2 l) ∧ (if l = (nl B.1 : Nat) then u else B.2.2.2 l) < 2 ^ np B.1 ∧ pop (if l = (nl B.1 : Nat) then u else B.2.2.2 l) ≤ 3
    by_cases q : l = (nl B.1 : Nat)
    · rw [if_pos q]; exact hu
    · rw [if_neg q]; exact h3 l l0 (by omega)
theorem wf_meal {B : BT} {a l c : Int} (h : wfB B) (hn : ne B.1 < 16) (ha : 0 ≤ a ∧ a < np B.1) (hl : 0 ≤ l ∧ l < nl B.1) (hc : 0 ≤ c ∧ c < 24) : wfB (addM a l c B) := by
  obtain ⟨⟨w1, w2, w3, w4, w5, w6, w7, w8, w9, w10, w11, w12, w13⟩, h2, h3⟩ := h
  refine ⟨⟨w1, w2, w3, by show ne B.1 + 1 ≤ 16; omega, w5, w6, fun i i0 i1 => ?_, w8, w9, w10, w11, w12, w13⟩, h2, h3⟩
  have i1' : i < ((ne B.1 + 1 : Nat) : Int) := i1
  show (0 ≤ (if i = (ne B.1 : Nat) then a else tea B.1 i) ∧ (if i = (ne B.1 : Nat) then a else tea B.1 i) < np B.1) ∧ (0 ≤ (if i = (ne B.1 : Nat) then l else ten B.1 i) ∧ (if i = (ne B.1 : Nat) then l else ten B.1 i) < nl B.1) ∧ 0 ≤ (if i = (ne B.1 : Nat) then c else tmc B.1 i) ∧ (if i = (ne B.1 : Nat) then c else tmc B.1 i) < 24
  by_cases q : i = (ne B.1 : Nat)
  · rw [if_pos q, if_pos q, if_pos q]; exact ⟨ha, hl, hc⟩
  · rw [if_neg q, if_neg q, if_neg q]; exact w7 i i0 (by omega)
theorem wf_seS {B : BT} {w v : Int} (h : wfB B) (hw : w = 12 ∨ w = 13 ∨ w = 14) (v0 : 0 ≤ v) (v1 : v ≤ if w = 14 then 99 else 23) : wfB (setS w v B) := by
  obtain ⟨⟨w1, w2, w3, w4, w5, w6, w7, w8, w9, w10, w11, w12, w13⟩, h2, h3⟩ := h
  refine ⟨⟨w1, w2, w3, w4, w5, w6, w7, w8, w9, w10, ?_, ?_, ?_⟩, h2, h3⟩
  · show 0 ≤ (if w = 12 then v else tbak B.1) ∧ (if w = 12 then v else tbak B.1) < 24
    by_cases q : w = 12
    · rw [if_pos q]; rw [if_neg (by omega)] at v1; omega
    · rw [if_neg q]; exact w11
  · show 0 ≤ (if w = 13 then v else tev B.1) ∧ (if w = 13 then v else tev B.1) < 24
    by_cases q : w = 13
    · rw [if_pos q]; rw [if_neg (by omega)] at v1; omega
    · rw [if_neg q]; exact w12
  · show 0 ≤ (if w = 14 then v else twh B.1) ∧ (if w = 14 then v else twh B.1) ≤ 99
    by_cases q : w = 14
    · rw [if_pos q]; rw [if_pos q] at v1; omega
    · rw [if_neg q]; exact w13
theorem bz_in {α β : Type} {r : α ⊕ Fz} {F : α → β ⊕ Fz} {b : β} (h : bz r F = .inl b) : ∃ a, r = .inl a ∧ F a = .inl b := by
  cases r with
  | inl a => exact ⟨a, rfl, h⟩
  | inr x => cases h
theorem bodF_wf {p q : Ps} {B B' : BT} (he : p.1 ≤ k) (h : bodF g k p B = .inl (q, B')) (hB : wfB B) : p.1 < q.1 ∧ q.1 ≤ k ∧ wfB B' := by
  have hj : ∀ w : Int, 0 ≤ w → wHr g k p = w → tkJ g k p.1 p.2 = 1 := by
    intro w w0 hw
    unfold wHr at hw
    split at hw
    · assumption
    · omega
  have hn := fun w w0 hw => nx_P (g := g) (k := k) (p := p) he (hj w w0 hw) (by omega) (by omega)
  have hB' := id hB
  obtain ⟨⟨w1, w2, w3, w4, w5, -⟩, -⟩ := hB'
  unfold bodF at h
  split at h
  · rename_i w
    unfold moF at h
    split at h
    · cases h
    · rename_i h0
      obtain ⟨⟨L, q1⟩, h1, h2⟩ := bz_in h
      cases h2
      obtain ⟨a1, a2, a3, a4⟩ := newF_in he (hj _ (by omega) w) h1
      exact ⟨a1, a2, wf_mood hB a4 h0⟩
  · split at h
    · rename_i w
      unfold peF at h
      obtain ⟨⟨L, q1⟩, h1, h2⟩ := bz_in h
      obtain ⟨q2, h3, h4⟩ := bz_in h2
      obtain ⟨⟨q3, N⟩, h5, h6⟩ := bz_in h4
      cases h6
      obtain ⟨a1, a2, a3, a4⟩ := newF_in he (hj _ (by omega) w) h1
      obtain ⟨b1, b2, b3, b4⟩ := wdT_in a2 h3
      obtain ⟨c1, c2, c3⟩ := natF_in b3 h5
      exact ⟨by show p.1 < q3.1; omega, c2, wf_person hB a4 c3⟩
    · split at h
      · rename_i w
        unfold loF at h
        obtain ⟨⟨L, q1⟩, h1, h2⟩ := bz_in h
        obtain ⟨q2, h3, h4⟩ := bz_in h2
        obtain ⟨⟨lv, q3⟩, h5, h6⟩ := bz_in h4
        obtain ⟨q4, h7, h8⟩ := bz_in h6
        obtain ⟨⟨q5, u⟩, h9, h10⟩ := bz_in h8
        cases h10
        obtain ⟨a1, a2, a3, a4⟩ := newF_in he (hj _ (by omega) w) h1
        obtain ⟨b1, b2, b3, b4⟩ := wdT_in a2 h3
        obtain ⟨c1, c2, c3, c4, c5⟩ := nuF_in b3 h5
        obtain ⟨d1, d2, d3, d4⟩ := wdT_in c3 h7
        obtain ⟨f1, f2⟩ := knF_in d3 h9
        exact ⟨by show p.1 < q5.1; omega, f2, wf_loaf hB a4 ⟨c4, c5⟩ (knF_wf w2 d3 h9 (by omega) (Int.pow_pos (by omega)) (by decide))⟩
      · split at h
        · rename_i w
          unfold meF at h
          split at h
          · cases h
          · rename_i h16
            obtain ⟨⟨a, q1⟩, h1, h2⟩ := bz_in h
            obtain ⟨⟨l, q2⟩, h3, h4⟩ := bz_in h2
            obtain ⟨q3, h5, h6⟩ := bz_in h4
            obtain ⟨⟨c, q4⟩, h7, h8⟩ := bz_in h6
            cases h8
            have hn' := hn _ (by omega) w
            obtain ⟨a1, a2, a3, a4, -⟩ := onF_in hn'.2 h1
            obtain ⟨b1, b2, b3, b4, -⟩ := onF_in a3 h3
            obtain ⟨c1, c2, c3, c4⟩ := wdT_in b3 h5
            obtain ⟨d1, d2, d3, d4, d5⟩ := nuF_in c3 h7
            have a4' : a < np B.1 := a4
            have b4' : l < nl B.1 := b4
            have hn1 := hn'.1
            exact ⟨by show p.1 < q4.1; omega, d3, wf_meal hB (by omega) ⟨by omega, by omega⟩ ⟨by omega, by omega⟩ ⟨d4, by omega⟩⟩
        · split at h
          · rename_i w
            unfold deF at h
            obtain ⟨⟨L, q1⟩, h1, h2⟩ := bz_in h
            obtain ⟨q2, h3, h4⟩ := bz_in h2
            obtain ⟨⟨e', nb', cs⟩, h5, h6⟩ := bz_in h4
            cases h6
            obtain ⟨a1, a2, a3, a4⟩ := newF_in he (hj _ (by omega) w) h1
            obtain ⟨b1, b2, b3, b4⟩ := wdT_in a2 h3
            obtain ⟨c1, c2⟩ := evX_len (by omega) b3 h5
            exact ⟨by show p.1 < e'; omega, c1, wf_deed hB a4 (evX_ty (Or.inl rfl) b3 h5)⟩
          · split at h
            · rename_i w
              unfold ocF at h
              split at h
              · cases h
              · obtain ⟨⟨e', nb', cs⟩, h5, h6⟩ := bz_in h
                cases h6
                have hn' := hn _ (by omega) w
                obtain ⟨c1, c2⟩ := evX_len (by omega) hn'.2 h5
                have hn1 := hn'.1
                exact ⟨by show p.1 < e'; omega, c1, wf_setC hB (Or.inl rfl) (evX_ty (Or.inr rfl) hn'.2 h5)⟩
            · split at h
              · rename_i w
                unfold ocF at h
                split at h
                · cases h
                · obtain ⟨⟨e', nb', cs⟩, h5, h6⟩ := bz_in h
                  cases h6
                  have hn' := hn _ (by omega) w
                  obtain ⟨c1, c2⟩ := evX_len (by omega) hn'.2 h5
                  have hn1 := hn'.1
                  exact ⟨by show p.1 < e'; omega, c1, wf_setC hB (Or.inr rfl) (evX_ty (Or.inr rfl) hn'.2 h5)⟩
              · split at h
                · rename_i w
                  unfold seF at h
                  obtain ⟨⟨v, q1⟩, h5, h6⟩ := bz_in h
                  cases h6
                  have hn' := hn (wHr g k p) (by omega) rfl
                  obtain ⟨d1, d2, d3, d4, d5⟩ := nuF_in hn'.2 h5
                  have hn1 := hn'.1
                  exact ⟨by show p.1 < q1.1; omega, d3, wf_seS hB w d4 d5⟩
                · cases h
theorem stF_wf {p q : Ps} {B B' : BT} (he : p.1 ≤ k) (h : stF g k p B = .inl (q, B')) (hB : wfB B) : p.1 < q.1 ∧ q.1 ≤ k ∧ wfB B' := by
  unfold stF at h
  obtain ⟨⟨q1, B1⟩, h1, h2⟩ := bz_in h
  obtain ⟨q2, h3, h4⟩ := bz_in h2
  cases h4
  obtain ⟨a1, a2, a3⟩ := bodF_wf he h1 hB
  obtain ⟨b1, b2, b3, -⟩ := sgT_in a2 h3
  exact ⟨by omega, b3, a3⟩
theorem twF_wf : ∀ {r : Nat} {p : Ps} {B B' : BT} {m : Nat}, p.1 ≤ k → twF g k r p B = .inl (B', m) → wfB B → wfB B' ∧ m ≤ r := by
  intro r
  induction r with
  | zero =>
    intro p B B' m he h hB
    unfold twF at h
    split at h
    · cases h
      exact ⟨hB, Nat.le_refl _⟩
    · cases h
  | succ r ih =>
    intro p B B' m he h hB
    unfold twF at h
    split at h
    · cases h
      exact ⟨hB, Nat.le_refl _⟩
    · obtain ⟨⟨q, B1⟩, h1, h2⟩ := bz_in h
      obtain ⟨a1, a2, a3⟩ := stF_wf he h1 hB
      have := ih a2 h2 a3
      exact ⟨this.1, by omega⟩
end

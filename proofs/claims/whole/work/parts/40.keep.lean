/-! an hour of the class: what is kept -/
def Ina (N mo : Nat) (i : Int) : Prop := ∀ p m : Int, 0 ≤ p → p < N → 0 ≤ m → m < mo → ¬ i = p * 4 + m
def Kp (T : TT) (M M' : Me) (f a : Nat) : Prop := (∀ b, ¬ (b = f + 1 ∨ b = f + 2 ∨ (a ≤ b ∧ b ≤ a + 3)) → M' b = M b) ∧ (∀ i, Ina (np T) (nm T) i → M' (a + 1) i = M (a + 1) i ∧ M' (a + 2) i = M (a + 2) i) ∧ (∀ i, Ina (nl T) (nm T) i → M' (a + 3) i = M (a + 3) i) ∧ SuK M' f
theorem Kp_refl {T : TT} {M : Me} {f a : Nat} (h : SuK M f) : Kp T M M f a := ⟨fun _ _ => rfl, fun _ _ => ⟨rfl, rfl⟩, fun _ _ => rfl, h⟩
theorem Kp_trans {T : TT} {M M' M'' : Me} {f a : Nat} (h : Kp T M M' f a) (h' : Kp T M' M'' f a) : Kp T M M'' f a := ⟨fun b hb => (h'.1 b hb).trans (h.1 b hb), fun i hi => ⟨(h'.2.1 i hi).1.trans (h.2.1 i hi).1, (h'.2.1 i hi).2.trans (h.2.1 i hi).2⟩, fun i hi => (h'.2.2.1 i hi).trans (h.2.2.1 i hi), h'.2.2.2⟩
theorem rowF_cell {q p m : Int} {g h : Int → Int} {mo : Nat} (hm : mo ≤ 4) (m0 : 0 ≤ m) (m1 : m < mo) : rowF (q * 4) g mo h (p * 4 + m) = if p = q then g m else h (p * 4 + m) := by
  by_cases e : p = q
  · subst e
    rw [if_pos rfl, rowF_lo m0 m1]
  · rw [if_neg e, rowF_hi (by omega)]
theorem rowF_ina {N mo : Nat} {q i : Int} {g h : Int → Int} (hi : Ina N mo i) (q0 : 0 ≤ q) (q1 : q < N) : rowF (q * 4) g mo h i = h i := by
  by_cases e : i < q * 4 ∨ q * 4 + mo ≤ i
  · exact rowF_hi e
  · exact absurd (by omega) (hi q (i - q * 4) q0 q1 (by omega) (by omega))
theorem TR_keep {T : TT} {M M' : Me} {t : Nat} (h : TR M t T) (hF : ∀ b, t ≤ b → b ≤ t + 12 → M' b = M b) : TR M' t T := by
  unfold TR at h ⊢
  rw [hF t (by omega) (by omega), hF (t + 1) (by omega) (by omega), hF (t + 4) (by omega) (by omega), hF (t + 6) (by omega) (by omega), hF (t + 7) (by omega) (by omega), hF (t + 8) (by omega) (by omega), hF (t + 10) (by omega) (by omega), hF (t + 11) (by omega) (by omega), hF (t + 12) (by omega) (by omega)]
  exact h
theorem SR_keep {T : TT} {M M' : Me} {a : Nat} {s : Ss} (h : SR T M a s) (hF : ∀ b, a ≤ b → b ≤ a + 4 → M' b = M b) : SR T M' a s := by
  unfold SR at h ⊢
  rw [hF a (by omega) (by omega), hF (a + 1) (by omega) (by omega), hF (a + 2) (by omega) (by omega), hF (a + 3) (by omega) (by omega), hF (a + 4) (by omega) (by omega)]
  exact h
theorem SR_bake {T : TT} {M M' : Me} {a : Nat} {s : Ss} {l : Int} (wT : wfT T) (h : SR T M a s) (hF : ∀ b, a ≤ b → b ≤ a + 4 → ¬ b = a + 3 → M' b = M b) (h3 : M' (a + 3) = rowF (l * 4) (bkV T s l) (nm T) (M (a + 3))) : SR T M' a (bakeF T l s) := by
  obtain ⟨h0, h1, h2, h4⟩ := h
  refine ⟨?_, fun p m p0 p1 m0 m1 => ?_, fun l' m l0 l1 m0 m1 => ?_, fun l' l0 l1 => ?_⟩
  · rw [hF a (by omega) (by omega) (by omega)]; exact h0
  · rw [hF (a + 1) (by omega) (by omega) (by omega), hF (a + 2) (by omega) (by omega) (by omega)]; exact h1 p m p0 p1 m0 m1
  · rw [h3, rowF_cell wT.1 m0 m1]
    show _ = if l' = l then _ else _
    split
    · rfl
    · exact h2 l' m l0 l1 m0 m1
  · rw [hF (a + 4) (by omega) (by omega) (by omega)]; exact h4 l' l0 l1
theorem SR_eat {T : TT} {M M' : Me} {a : Nat} {s : Ss} {k : Int} (wT : wfT T) (h : SR T M a s) (hF : ∀ b, a ≤ b → b ≤ a + 4 → ¬ b = a + 2 → M' b = M b) (h3 : M' (a + 2) = rowF (tea T k * 4) (eatV T s k) (nm T) (M (a + 2))) : SR T M' a (eatF T k s) := by
  obtain ⟨h0, h1, h2, h4⟩ := h
  refine ⟨?_, fun p m p0 p1 m0 m1 => ?_, fun l' m l0 l1 m0 m1 => ?_, fun l' l0 l1 => ?_⟩
  · rw [hF a (by omega) (by omega) (by omega)]; exact h0
  · rw [hF (a + 1) (by omega) (by omega) (by omega), h3, rowF_cell wT.1 m0 m1]
    refine ⟨(h1 p m p0 p1 m0 m1).1, ?_⟩
    show _ = if p = tea T k then _ else _
    by_cases e : p = tea T k
    · subst e
      rw [if_pos rfl, if_pos rfl]; rfl
    · rw [if_neg e, if_neg e]; exact (h1 p m p0 p1 m0 m1).2
  · rw [hF (a + 3) (by omega) (by omega) (by omega)]; exact h2 l' m l0 l1 m0 m1
  · rw [hF (a + 4) (by omega) (by omega) (by omega)]; exact h4 l' l0 l1
theorem SR_sleep {T : TT} {M M' : Me} {a : Nat} {s : Ss} {q : Int} (wT : wfT T) (h : SR T M a s) (hF : ∀ b, a ≤ b → b ≤ a + 4 → ¬ b = a + 1 → ¬ b = a + 2 → M' b = M b) (hN : M' (a + 1) = (if tc T 7 = [] then M (a + 1) else rowF (q * 4) (slpV T s q) (nm T) (M (a + 1)))) (h3 : M' (a + 2) = rowF (q * 4) (slpV T s q) (nm T) (M (a + 2))) : SR T M' a (sleepF T q s) := by
  obtain ⟨h0, h1, h2, h4⟩ := h
  refine ⟨?_, fun p m p0 p1 m0 m1 => ⟨?_, ?_⟩, fun l' m l0 l1 m0 m1 => ?_, fun l' l0 l1 => ?_⟩
  · rw [hF a (by omega) (by omega) (by omega) (by omega)]; exact h0
  · rw [hN]
    show _ = if p = q then slpV T s p m else sn s p m
    by_cases e7 : tc T 7 = []
    · rw [if_pos e7]
      have : slpV T s p m = sn s p m := by unfold slpV; rw [if_pos e7]
      rw [this, (h1 p m p0 p1 m0 m1).1]
      split <;> rfl
    · rw [if_neg e7, rowF_cell wT.1 m0 m1]
      by_cases e : p = q
      · subst e
        rw [if_pos rfl, if_pos rfl]
      · rw [if_neg e, if_neg e]; exact (h1 p m p0 p1 m0 m1).1
  · rw [h3, rowF_cell wT.1 m0 m1]
    show _ = if p = q then slpV T s p m else sf s p m
    by_cases e : p = q
    · subst e
      rw [if_pos rfl, if_pos rfl]
    · rw [if_neg e, if_neg e]; exact (h1 p m p0 p1 m0 m1).2
  · rw [hF (a + 3) (by omega) (by omega) (by omega) (by omega)]; exact h2 l' m l0 l1 m0 m1
  · rw [hF (a + 4) (by omega) (by omega) (by omega) (by omega)]; exact h4 l' l0 l1
theorem asF_rng (x : Int) : 0 ≤ asF x ∧ asF x ≤ 99 := by unfold asF; omega
theorem wf_bake {T : TT} {s : Ss} {l : Int} (wT : wfT T) (w : wfS T s) (h0 : 0 ≤ l) (h1 : l < nl T) : wfS T (bakeF T l s) := by
  refine ⟨w.1, w.2.1, fun l' m q0 q1 m0 m1 => ?_, w.2.2.2⟩
  show _ ≤ (if l' = l then bkV T s l m else _) ∧ (if l' = l then bkV T s l m else _) ≤ _
  split
  · have r := bk_rng wT w h0 h1 m0 m1
    obtain ⟨k0, k1⟩ := sk_rng wT w h0 h1
    obtain ⟨p0, p1⟩ := pop_pos _ k0 k1
    unfold bkV
    exact ⟨Int.ediv_nonneg r.1 (by omega), Int.ediv_le_of_le_mul (by omega) r.2⟩
  · exact w.2.2.1 l' m q0 q1 m0 m1
theorem wf_eat {T : TT} {s : Ss} {k : Int} (w : wfS T s) : wfS T (eatF T k s) := by
  refine ⟨w.1, fun p m q0 q1 m0 m1 => ⟨(w.2.1 p m q0 q1 m0 m1).1, ?_⟩, w.2.2.1, w.2.2.2⟩
  show _ ≤ (if p = tea T k then asF _ else _) ∧ (if p = tea T k then asF _ else _) ≤ _
  split
  · exact asF_rng _
  · exact (w.2.1 p m q0 q1 m0 m1).2
theorem slp_rng {T : TT} {s : Ss} {p m : Int} (w : wfS T s) (q0 : 0 ≤ p) (q1 : p < np T) (m0 : 0 ≤ m) (m1 : m < nm T) : 0 ≤ slpV T s p m ∧ slpV T s p m ≤ 99 := by
  unfold slpV
  split
  · exact (w.2.1 p m q0 q1 m0 m1).1
  · exact asF_rng _
theorem wf_sleep {T : TT} {s : Ss} {q : Int} (w : wfS T s) : wfS T (sleepF T q s) := by
  refine ⟨w.1, fun p m q0 q1 m0 m1 => ⟨?_, ?_⟩, w.2.2.1, w.2.2.2⟩
  · show _ ≤ (if p = q then slpV T s p m else _) ∧ (if p = q then slpV T s p m else _) ≤ _
    split
    · exact slp_rng w q0 q1 m0 m1
    · exact (w.2.1 p m q0 q1 m0 m1).1
  · show _ ≤ (if p = q then slpV T s p m else _) ∧ (if p = q then slpV T s p m else _) ≤ _
    split
    · exact slp_rng w q0 q1 m0 m1
    · exact (w.2.1 p m q0 q1 m0 m1).2
theorem itn_ind {α : Type} {f : Nat → α → α} (P : α → Prop) {N : Nat} {a : α} (h0 : P a) (hs : ∀ k, k < N → ∀ x, P x → P (f k x)) : P (itn f N a) := by
  induction N with
  | zero => exact h0
  | succ N ih => exact hs N (by omega) _ (ih (fun k hk => hs k (by omega)))
theorem itn_id {α : Type} {f : Nat → α → α} {N : Nat} {a : α} (hs : ∀ k, k < N → ∀ x, f k x = x) : itn f N a = a := by
  induction N with
  | zero => rfl
  | succ N ih => show f N (itn f N a) = a; rw [ih (fun k hk => hs k (by omega)), hs N (by omega)]
theorem wf_hour {T : TT} {s : Ss} (wT : wfT T) (w : wfS T s) (h : sh s + 1 ≤ 9999) : wfS T (hourF T s) ∧ sh (hourF T s) = sh s + 1 := by
  have w0 : wfS T ((sh s + 1, s.2) : Ss) ∧ sh ((sh s + 1, s.2) : Ss) = sh s + 1 := ⟨⟨⟨by have := w.1; show 0 ≤ sh s + 1; omega, h⟩, w.2⟩, rfl⟩
  unfold hourF
  have w1 : wfS T (if (sh s + 1) % 24 = tbak T then itn (fun l => bakeF T l) (nl T) ((sh s + 1, s.2) : Ss) else ((sh s + 1, s.2) : Ss)) ∧ sh (if (sh s + 1) % 24 = tbak T then itn (fun l => bakeF T l) (nl T) ((sh s + 1, s.2) : Ss) else ((sh s + 1, s.2) : Ss)) = sh s + 1 := by
    split
    · exact itn_ind (fun x => wfS T x ∧ sh x = sh s + 1) w0 (fun k hk x hx => ⟨wf_bake wT hx.1 (by omega) (by omega), hx.2⟩)
    · exact w0
  dsimp only
  generalize (if (sh s + 1) % 24 = tbak T then itn (fun l => bakeF T l) (nl T) ((sh s + 1, s.2) : Ss) else ((sh s + 1, s.2) : Ss)) = x1 at *
  have w2 := itn_ind (f := fun k s' => if tmc T k = (sh s + 1) % 24 then eatF T k s' else s') (fun x => wfS T x ∧ sh x = sh s + 1) (N := ne T) w1 (fun k hk x hx => by
    split
    · exact ⟨wf_eat hx.1, hx.2⟩
    · exact hx)
  split
  · exact itn_ind (fun x => wfS T x ∧ sh x = sh s + 1) w2 (fun k hk x hx => ⟨wf_sleep hx.1, hx.2⟩)
  · exact w2

/-! what is read is of its kind -/
def tyT (tag : Nat) : Bool := decide (tag ≤ 4)
def inTy (tag : Nat) (ts : List Bool) : List Bool := if tag = 1 ∨ tag = 3 ∨ tag = 6 ∨ tag = 8 then tyT tag :: ts else ts
def hT (tag op : Nat) : Nat := 3 * (6 - op) + (if tag = 9 then 1 else if tag = 7 ∨ tag = 8 then 2 else if tag = 5 ∨ tag = 6 then 3 else if tag = 4 then 4 else if tag = 2 ∨ tag = 3 then 5 else 6)
theorem tys {w : Nat} {a b : List Nat} {ts t1 : List Bool} {r : Option (List Bool)} (h : tycs w a ts = some t1) (h2 : tycs w b t1 = r) : tycs w (a ++ b) ts = r := by
  rw [tycs_app, h]
  exact h2
theorem tyo {w c : Nat} {b : List Nat} {ts t1 : List Bool} {r : Option (List Bool)} (h : tyc w c ts = some t1) (h2 : tycs w b t1 = r) : tycs w (c :: b) ts = r := by
  simp only [tycs, h]
  exact h2
theorem ty_2 {w c : Nat} {ts : List Bool} (h : c = 25 ∨ c = 26) : tyc w c (true :: true :: ts) = some (true :: ts) := by
  rcases h with rfl | rfl <;> simp [tyc, ty2]
theorem ty_f {w c : Nat} {ts : List Bool} (h : c = 27 ∨ c = 28 ∨ c = 42 ∨ c = 43 ∨ c = 45 ∨ c = 47) : tyc w c (false :: false :: ts) = some (false :: ts) := by
  rcases h with rfl | rfl | rfl | rfl | rfl | rfl <;> simp [tyc, ty2]
theorem ty_c {w c : Nat} {ts : List Bool} (h : c = 60 ∨ c = 61 ∨ c = 62) : tyc w c (false :: false :: ts) = some (true :: ts) := by
  rcases h with rfl | rfl | rfl <;> simp [tyc, ty2]
theorem ty_n {w : Nat} {ts : List Bool} : tyc w 24 (true :: ts) = some (true :: ts) := by simp [tyc, ty1]
theorem ty_a {w : Nat} {c : Nat} {ts : List Bool} (h : askd w c) : tyc w c (false :: ts) = some (false :: ts) := by
  have h : ((c = 22 ∨ c = 23) ∧ ¬ w = 0) ∨ (c = 30 ∧ w = 2) := by unfold askd at h; omega
  rcases h with ⟨rfl | rfl, h⟩ | ⟨rfl, rfl⟩
  · have : 0 < w := by omega
    simp [tyc, ty1, akw, this]
  · have : 0 < w := by omega
    simp [tyc, ty1, akw, this]
  · simp [tyc, ty1, akw]
theorem ty_l {w : Nat} {c : Nat} {ts : List Bool} (hl : ts.length < 64) (h : alon w c) : tyc w c ts = some (false :: ts) := by
  have h : (c = 16 ∨ c = 17) ∨ ((c = 18 ∨ c = 19 ∨ c = 20 ∨ c = 21) ∧ w = 0) ∨ (c = 29 ∧ w = 2) := by unfold alon at h; omega
  rcases h with (rfl | rfl) | ⟨rfl | rfl | rfl | rfl, rfl⟩ | ⟨rfl, rfl⟩ <;> simp [tyc, ty0, akw, alw, hl]
theorem ty_15 {w : Nat} {ts : List Bool} (hl : ts.length < 64) : tyc w 15 ts = some (true :: ts) := by simp [tyc, ty0, akw, hl]
theorem ty_num {w c : Nat} {ts : List Bool} (hl : ts.length < 64) (h0 : 256 ≤ c) (h1 : c < 10256) : tyc w c ts = some (false :: ts) := by
  have ha : akw w c = false := by
    unfold akw
    rw [show (c == 22) = false by rw [beq_eq_false_iff_ne]; omega, show (c == 23) = false by rw [beq_eq_false_iff_ne]; omega, show (c == 30) = false by rw [beq_eq_false_iff_ne]; omega]
    simp
  unfold tyc
  rw [if_neg (by omega), if_neg (by omega), if_neg (by omega), if_neg (by omega), if_neg (by rw [ha]; decide), if_neg (by omega), if_pos (Or.inl ⟨h0, h1⟩)]
  unfold ty0
  rw [if_pos hl]
section
variable {g : Int → Int} {k wh : Nat}
theorem nu_rng {e : Nat} {nb : Bool} (he : e ≤ k) (h : tkJ g k e nb = 2) (h4 : tkQ g k e - skp g k e ≤ 4) : 0 ≤ vaF g k e ∧ vaF g k e < 10000 := by
  obtain ⟨s1, s2, s3, s4⟩ := skp_prop (g := g) he
  obtain ⟨t1, t2, t3⟩ := tkQ_prop (g := g) he
  have hK := J_K h (by omega)
  have k0 := tkK_0 (g := g) (k := k) (e := e)
  obtain ⟨t4, t5, -⟩ := t3 (by omega)
  unfold vaF
  rw [if_neg (by omega), if_pos hK]
  have a := dgV_rng (g := g) (p := skp g k e) (m := min 4 (tkQ g k e - skp g k e)) (by omega) (fun i h1 h2 => sort_2 (by rw [t5 i h1 (by omega), hK]))
  have b : ∀ n, n ≤ 4 → (10 : Int) ^ n ≤ 10000 := by decide
  have := b (min 4 (tkQ g k e - skp g k e)) (by omega)
  omega
theorem ev_ty : ∀ {f tag op e : Nat} {nb : Bool} {e' : Nat} {nb' : Bool} {cs : List Nat}, ev g k wh f tag op e nb = some (.inl (e', nb', cs)) → op ≤ 6 → e ≤ k → ∀ ts : List Bool, ts.length + hT tag op ≤ 64 → tycs wh cs (inTy tag ts) = some (tyT tag :: ts) := by
  intro f
  induction f with
  | zero => intro tag op e nb e' nb' cs h; simp [ev] at h
  | succ f ih =>
    intro tag op e nb e' nb' cs h hop he ts hl
    have r0 : ∀ op, hT 0 op = 3 * (6 - op) + 6 := fun _ => rfl
    have r1 : ∀ op, hT 1 op = 3 * (6 - op) + 6 := fun _ => rfl
    have r2 : ∀ op, hT 2 op = 3 * (6 - op) + 5 := fun _ => rfl
    have r3 : ∀ op, hT 3 op = 3 * (6 - op) + 5 := fun _ => rfl
    have r4 : ∀ op, hT 4 op = 3 * (6 - op) + 4 := fun _ => rfl
    have r5 : ∀ op, hT 5 op = 3 * (6 - op) + 3 := fun _ => rfl
    have r6 : ∀ op, hT 6 op = 3 * (6 - op) + 3 := fun _ => rfl
    have r7 : ∀ op, hT 7 op = 3 * (6 - op) + 2 := fun _ => rfl
    have r8 : ∀ op, hT 8 op = 3 * (6 - op) + 2 := fun _ => rfl
    have r9 : ∀ op, hT 9 op = 3 * (6 - op) + 1 := fun _ => rfl
    have nlen : ∀ (t : Bool) (ts : List Bool), (t :: ts).length = ts.length + 1 := fun _ _ => rfl
    rcases (show tag = 0 ∨ tag = 1 ∨ tag = 2 ∨ tag = 3 ∨ tag = 4 ∨ tag = 5 ∨ tag = 6 ∨ tag = 7 ∨ tag = 8 ∨ tag = 9 ∨ 10 ≤ tag by omega) with rfl | rfl | rfl | rfl | rfl | rfl | rfl | rfl | rfl | rfl | h10
    · rw [ev_t0] at h
      rw [r0] at hl
      rcases bnd_some h with ⟨x, -, h2⟩ | ⟨e1, n1, c1, h1, h⟩
      · cases h2
      · rcases bnd_some h with ⟨x, -, h2⟩ | ⟨e2, n2, c2, h2, h⟩
        · cases h2
        · cases h
          exact tys (ih h1 hop he ts (by rw [r2]; omega)) (ih h2 hop (ev_len h1 he).1 ts (by rw [r1]; omega))
    · rw [ev_t1] at h
      rw [r1] at hl
      split at h
      · rename_i q
        have hn := nx_step (g := g) he (by have := Wd_K q; omega)
        rcases bnd_some h with ⟨x, -, h2⟩ | ⟨e1, n1, c1, h1, h⟩
        · cases h2
        · rcases bnd_some h with ⟨x, -, h2⟩ | ⟨e2, n2, c2, h2, h⟩
          · cases h2
          · cases h
            exact tys (ih h1 hop hn.2 (true :: ts) (by rw [r2, nlen]; omega)) (tyo (ty_2 (Or.inl rfl)) (ih h2 hop (ev_len h1 hn.2).1 ts (by rw [r1]; omega)))
      · cases h
        rfl
    · rw [ev_t2] at h
      rw [r2] at hl
      rcases bnd_some h with ⟨x, -, h2⟩ | ⟨e1, n1, c1, h1, h⟩
      · cases h2
      · rcases bnd_some h with ⟨x, -, h2⟩ | ⟨e2, n2, c2, h2, h⟩
        · cases h2
        · cases h
          exact tys (ih h1 hop he ts (by rw [r4]; omega)) (ih h2 hop (ev_len h1 he).1 ts (by rw [r3]; omega))
    · rw [ev_t3] at h
      rw [r3] at hl
      split at h
      · rename_i q
        have hn := nx_step (g := g) he (by have := Wd_K q; omega)
        rcases bnd_some h with ⟨x, -, h2⟩ | ⟨e1, n1, c1, h1, h⟩
        · cases h2
        · rcases bnd_some h with ⟨x, -, h2⟩ | ⟨e2, n2, c2, h2, h⟩
          · cases h2
          · cases h
            exact tys (ih h1 hop hn.2 (true :: ts) (by rw [r4, nlen]; omega)) (tyo (ty_2 (Or.inr rfl)) (ih h2 hop (ev_len h1 hn.2).1 ts (by rw [r3]; omega)))
      · cases h
        rfl
    · rw [ev_t4] at h
      rw [r4] at hl
      split at h
      · rename_i q
        have hn := nx_step (g := g) he (by have := Wd_K q; omega)
        split at h
        · cases h
        · rcases bnd_some h with ⟨x, -, h2⟩ | ⟨e1, n1, c1, h1, h⟩
          · cases h2
          · cases h
            exact tys (ih h1 (by omega) hn.2 ts (by rw [r4]; omega)) (tyo ty_n rfl)
      · split at h
        · rename_i q
          have hn := nx_step (g := g) he (by have := Sg_K q; omega)
          split at h
          · cases h
          · rcases bnd_some h with ⟨x, -, h2⟩ | ⟨e1, n1, c1, h1, h⟩
            · cases h2
            · split at h
              · cases h
                exact ih h1 (by omega) hn.2 ts (by rw [r0]; omega)
              · cases h
        · split at h
          · cases h
            exact tyo (ty_15 (by show ts.length < 64; omega)) rfl
          · rcases bnd_some h with ⟨x, -, h2⟩ | ⟨e1, n1, c1, h1, h⟩
            · cases h2
            · have a1 := ev_len h1 he
              split at h
              · rename_i q2
                have hn2 := nx_step (g := g) a1.1 (by rcases q2 with q2 | q2 | q2 <;> (have := Sg_K q2; omega))
                have hv : (vaF g k e1).toNat = 60 ∨ (vaF g k e1).toNat = 61 ∨ (vaF g k e1).toNat = 62 := by
                  rcases q2 with q2 | q2 | q2 <;> (rw [q2.2]; simp)
                rcases bnd_some h with ⟨x, -, h2⟩ | ⟨e2, n2, c2, h2, h⟩
                · cases h2
                · cases h
                  exact tys (tys (ih h1 hop he ts (by rw [r5]; omega)) (ih h2 hop hn2.2 (false :: ts) (by rw [r5, nlen]; omega))) (tyo (ty_c hv) rfl)
              · cases h
    · rw [ev_t5] at h
      rw [r5] at hl
      rcases bnd_some h with ⟨x, -, h2⟩ | ⟨e1, n1, c1, h1, h⟩
      · cases h2
      · rcases bnd_some h with ⟨x, -, h2⟩ | ⟨e2, n2, c2, h2, h⟩
        · cases h2
        · cases h
          exact tys (ih h1 hop he ts (by rw [r7]; omega)) (ih h2 hop (ev_len h1 he).1 ts (by rw [r6]; omega))
    · rw [ev_t6] at h
      rw [r6] at hl
      split at h
      · rename_i q
        have hn := nx_step (g := g) he (by rcases q with q | q <;> (have := Sg_K q; omega))
        have hv : (vaF g k e).toNat = 43 ∨ (vaF g k e).toNat = 45 := by
          rcases q with q | q <;> (rw [q.2]; simp)
        rcases bnd_some h with ⟨x, -, h2⟩ | ⟨e1, n1, c1, h1, h⟩
        · cases h2
        · rcases bnd_some h with ⟨x, -, h2⟩ | ⟨e2, n2, c2, h2, h⟩
          · cases h2
          · cases h
            exact tys (ih h1 hop hn.2 (false :: ts) (by rw [r7, nlen]; omega)) (tyo (ty_f (by omega)) (ih h2 hop (ev_len h1 hn.2).1 ts (by rw [r6]; omega)))
      · cases h
        rfl
    · rw [ev_t7] at h
      rw [r7] at hl
      rcases bnd_some h with ⟨x, -, h2⟩ | ⟨e1, n1, c1, h1, h⟩
      · cases h2
      · rcases bnd_some h with ⟨x, -, h2⟩ | ⟨e2, n2, c2, h2, h⟩
        · cases h2
        · cases h
          exact tys (ih h1 hop he ts (by rw [r9]; omega)) (ih h2 hop (ev_len h1 he).1 ts (by rw [r8]; omega))
    · rw [ev_t8] at h
      rw [r8] at hl
      split at h
      · rename_i q
        have hn := nx_step (g := g) he (by rcases q with q | q <;> (have := Sg_K q; omega))
        have hv : (vaF g k e).toNat = 42 ∨ (vaF g k e).toNat = 47 := by
          rcases q with q | q <;> (rw [q.2]; simp)
        rcases bnd_some h with ⟨x, -, h2⟩ | ⟨e1, n1, c1, h1, h⟩
        · cases h2
        · rcases bnd_some h with ⟨x, -, h2⟩ | ⟨e2, n2, c2, h2, h⟩
          · cases h2
          · cases h
            exact tys (ih h1 hop hn.2 (false :: ts) (by rw [r9, nlen]; omega)) (tyo (ty_f (by omega)) (ih h2 hop (ev_len h1 hn.2).1 ts (by rw [r8]; omega)))
      · cases h
        rfl
    · rw [ev_t9] at h
      rw [r9] at hl
      split at h
      · rename_i q
        split at h
        · rename_i q4
          cases h
          have hr := nu_rng he q q4
          exact tyo (ty_num (by show ts.length < 64; omega) (by omega) (by omega)) rfl
        · cases h
      · split at h
        · rename_i q
          have hn := nx_step (g := g) he (by have := Sg_K q; omega)
          split at h
          · cases h
          · rcases bnd_some h with ⟨x, -, h2⟩ | ⟨e1, n1, c1, h1, h⟩
            · cases h2
            · split at h
              · cases h
                exact ih h1 (by omega) hn.2 ts (by rw [r5]; omega)
              · cases h
        · split at h
          · cases h
          · rename_i q
            have q := Classical.not_not.mp q
            have hn := nx_step (g := g) he (by have := J_K q (by omega); omega)
            split at h
            · rename_i q27
              have hv : (tkW g k e).toNat = 27 ∨ (tkW g k e).toNat = 28 := by omega
              split at h
              · rename_i q2
                have hn2 := nx_step (g := g) hn.2 (by have := Sg_K q2; omega)
                split at h
                · cases h
                · rcases bnd_some h with ⟨x, -, h2⟩ | ⟨e1, n1, c1, h1, h⟩
                  · cases h2
                  · have a1 := ev_len h1 hn2.2
                    split at h
                    · rename_i q3
                      have hn3 := nx_step (g := g) a1.1 (by have := Sg_K q3; omega)
                      rcases bnd_some h with ⟨x, -, h2⟩ | ⟨e2, n2, c2, h2, h⟩
                      · cases h2
                      · split at h
                        · cases h
                          exact tys (tys (ih h1 (by omega) hn2.2 ts (by rw [r5]; omega)) (ih h2 (by omega) hn3.2 (false :: ts) (by rw [r5, nlen]; omega))) (tyo (ty_f (by omega)) rfl)
                        · cases h
                    · cases h
              · cases h
            · split at h
              · rename_i qa
                have hw : ((tkW g k e).toNat : Int) = tkW g k e := by unfold askd at qa; omega
                split at h
                · cases h
                · rcases bnd_some h with ⟨x, -, h2⟩ | ⟨e1, n1, c1, h1, h⟩
                  · cases h2
                  · cases h
                    exact tys (ih h1 (by omega) hn.2 ts (by rw [r9]; omega)) (tyo (ty_a (by rw [hw]; exact qa)) rfl)
              · split at h
                · rename_i qa
                  have hw : ((tkW g k e).toNat : Int) = tkW g k e := by unfold alon at qa; omega
                  cases h
                  exact tyo (ty_l (by show ts.length < 64; omega) (by rw [hw]; exact qa)) rfl
                · cases h
    · unfold ev at h
      dsimp only at h
      split at h <;> first | omega | cases h
end

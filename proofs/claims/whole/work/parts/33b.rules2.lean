/-! the rules once more, without a function under a bind -/
section
variable {call : Nat → List Value → Hp → Option Rs} {o : Nat} {rt : Option FieldType} {ini : Bool} {nL : Nat} {cc : ByteArray} {pc : Nat} {l : Lo} {stk : List Value} {h : Hp}
noncomputable def qI (call : Nat → List Value → Hp → Option Rs) (o : Nat) (rt : Option FieldType) (ini : Bool) (nL : Nat) (cc : ByteArray) (pc : Nat) (l : Lo) (stk : List Value) (h : Hp) : Option Int32 → Option Rs
  | some x => Rn call o rt ini nL cc (pc, l, .int x :: stk, h)
  | none => none
noncomputable def qJ (call : Nat → List Value → Hp → Option Rs) (o : Nat) (rt : Option FieldType) (ini : Bool) (nL : Nat) (cc : ByteArray) (pc : Nat) (l : Lo) (stk : List Value) (h : Hp) : Option Int64 → Option Rs
  | some x => Rn call o rt ini nL cc (pc, l, .long x :: stk, h)
  | none => none
noncomputable def qR (call : Nat → List Value → Hp → Option Rs) (o : Nat) (rt : Option FieldType) (ini : Bool) (nL : Nat) (cc : ByteArray) (pc : Nat) (l : Lo) (stk : List Value) (h : Hp) : Option Nat → Option Rs
  | some x => Rn call o rt ini nL cc (pc, l, .ref x :: stk, h)
  | none => none
noncomputable def qV (call : Nat → List Value → Hp → Option Rs) (o : Nat) (rt : Option FieldType) (ini : Bool) (nL : Nat) (cc : ByteArray) (pc : Nat) (l : Lo) (stk : List Value) (h : Hp) : Option Value → Option Rs
  | some x => Rn call o rt ini nL cc (pc, l, x :: stk, h)
  | none => none
noncomputable def qX (call : Nat → List Value → Hp → Option Rs) (o : Nat) (rt : Option FieldType) (ini : Bool) (nL : Nat) (cc : ByteArray) (pc : Nat) (l : Lo) (stk : List Value) (h : Hp) : Option (Option Nat) → Option Rs
  | some x => Rn call o rt ini nL cc (pc, l, va_rf x :: stk, h)
  | none => none
noncomputable def qN (call : Nat → List Value → Hp → Option Rs) (o : Nat) (rt : Option FieldType) (ini : Bool) (nL : Nat) (cc : ByteArray) (pc : Nat) (l : Lo) (stk : List Value) (h : Hp) (i : Nat) (n : Int) : Option Int32 → Option Rs
  | some x => Rn call o rt ini nL cc (pc, pt1 i (.int (x + Int32.ofInt n)) l, stk, h)
  | none => none
noncomputable def qW (call : Nat → List Value → Hp → Option Rs) (o : Nat) (rt : Option FieldType) (ini : Bool) (nL : Nat) (cc : ByteArray) (pc : Nat) (l : Lo) (stk : List Value) (h : Hp) (a : Nat) : Option AC → Option Rs
  | some c => Rn call o rt ini nL cc (pc, l, stk, (h.1, h.2.1, up h.2.2 a c))
  | none => none
noncomputable def qF (call : Nat → List Value → Hp → Option Rs) (o : Nat) (rt : Option FieldType) (ini : Bool) (nL : Nat) (cc : ByteArray) (pc : Nat) (l : Lo) (stk : List Value) (h : Hp) (a : Nat) : Option AC → Option Rs
  | some c => if 8 ≤ a then Rn call o rt ini nL cc (pc, l, stk, (h.1, h.2.1, up h.2.2 a c)) else none
  | none => none
noncomputable def qC (call : Nat → List Value → Hp → Option Rs) (o : Nat) (rt : Option FieldType) (ini : Bool) (nL : Nat) (cc : ByteArray) (pc : Nat) (l : Lo) (stk : List Value) (h : Hp) : Option Rs → Option Rs
  | some w => Rn call o rt ini nL cc (pc, l, w.1.toList ++ stk, w.2)
  | none => none
theorem qI_s (x) : qI call o rt ini nL cc pc l stk h (some x) = Rn call o rt ini nL cc (pc, l, .int x :: stk, h) := rfl
theorem qJ_s (x) : qJ call o rt ini nL cc pc l stk h (some x) = Rn call o rt ini nL cc (pc, l, .long x :: stk, h) := rfl
theorem qR_s (x) : qR call o rt ini nL cc pc l stk h (some x) = Rn call o rt ini nL cc (pc, l, .ref x :: stk, h) := rfl
theorem qV_s (x) : qV call o rt ini nL cc pc l stk h (some x) = Rn call o rt ini nL cc (pc, l, x :: stk, h) := rfl
theorem qX_s (x) : qX call o rt ini nL cc pc l stk h (some x) = Rn call o rt ini nL cc (pc, l, va_rf x :: stk, h) := rfl
theorem qN_s (i n x) : qN call o rt ini nL cc pc l stk h i n (some x) = Rn call o rt ini nL cc (pc, pt1 i (.int (x + Int32.ofInt n)) l, stk, h) := rfl
theorem qW_s (a c) : qW call o rt ini nL cc pc l stk h a (some c) = Rn call o rt ini nL cc (pc, l, stk, (h.1, h.2.1, up h.2.2 a c)) := rfl
theorem qF_s {a : Nat} (c) (h8 : 8 ≤ a) : qF call o rt ini nL cc pc l stk h a (some c) = Rn call o rt ini nL cc (pc, l, stk, (h.1, h.2.1, up h.2.2 a c)) := if_pos h8
theorem qC_s (v : Option Value) (h2 : Hp) : qC call o rt ini nL cc pc l stk h (some (v, h2)) = Rn call o rt ini nL cc (pc, l, v.toList ++ stk, h2) := rfl
theorem Rm_iload {i : Nat} (d : decode cc pc = .ok (.iload i, 2)) : Rn call o rt ini nL cc (pc, l, stk, h) = qI call o rt ini nL cc (pc + 2) l stk h (gI (lk l i)) := by
  rw [Rn_iload d]
  unfold qI
  cases (gI (lk l i)) <;> rfl
theorem Rm_iload_n {i : Fin 4} {k : Nat} (hk : (i : Nat) = k) (d : decode cc pc = .ok (.iload_n i, 1)) : Rn call o rt ini nL cc (pc, l, stk, h) = qI call o rt ini nL cc (pc + 1) l stk h (gI (lk l k)) := by
  rw [Rn_iload_n hk d]
  unfold qI
  cases (gI (lk l k)) <;> rfl
theorem Rm_lload {i : Nat} (d : decode cc pc = .ok (.lload i, 2)) : Rn call o rt ini nL cc (pc, l, stk, h) = qJ call o rt ini nL cc (pc + 2) l stk h (gJ (lk l i)) := by
  rw [Rn_lload d]
  unfold qJ
  cases (gJ (lk l i)) <;> rfl
theorem Rm_lload_n {i : Fin 4} {k : Nat} (hk : (i : Nat) = k) (d : decode cc pc = .ok (.lload_n i, 1)) : Rn call o rt ini nL cc (pc, l, stk, h) = qJ call o rt ini nL cc (pc + 1) l stk h (gJ (lk l k)) := by
  rw [Rn_lload_n hk d]
  unfold qJ
  cases (gJ (lk l k)) <;> rfl
theorem Rm_aload {i : Nat} (d : decode cc pc = .ok (.aload i, 2)) : Rn call o rt ini nL cc (pc, l, stk, h) = qR call o rt ini nL cc (pc + 2) l stk h (gR (lk l i)) := by
  rw [Rn_aload d]
  unfold qR
  cases (gR (lk l i)) <;> rfl
theorem Rm_aload_n {i : Fin 4} {k : Nat} (hk : (i : Nat) = k) (d : decode cc pc = .ok (.aload_n i, 1)) : Rn call o rt ini nL cc (pc, l, stk, h) = qR call o rt ini nL cc (pc + 1) l stk h (gR (lk l k)) := by
  rw [Rn_aload_n hk d]
  unfold qR
  cases (gR (lk l k)) <;> rfl
theorem Rm_iinc {i : Nat} {n : Int} (hb : decide (i < nL) = true) (d : decode cc pc = .ok (.iinc i n, 3)) : Rn call o rt ini nL cc (pc, l, stk, h) = qN call o rt ini nL cc (pc + 3) l stk h i n (gI (lk l i)) := by
  rw [Rn_iinc hb d]
  unfold qN
  cases (gI (lk l i)) <;> rfl
theorem Rm_getfield {idx a ci k p : Nat} (hf : fl o idx = some (ci, k, p)) (d : decode cc pc = .ok (.getfield idx, 3)) : Rn call o rt ini nL cc (pc, l, .ref a :: stk, h) = qV call o rt ini nL cc (pc + 3) l stk h (gf (h.2.2 a) ci k) := by
  rw [Rn_getfield hf d]
  unfold qV
  cases (gf (h.2.2 a) ci k) <;> rfl
theorem Rm_putfieldI {idx a ci k p : Nat} {x : Int32} (hf : fl o idx = some (ci, k, p)) (hty : tyXs ci k = .int) (hfin : (!(TXs ci k).2.2.2 || (ini && o == ci)) = true) (d : decode cc pc = .ok (.putfield idx, 3)) : Rn call o rt ini nL cc (pc, l, .int x :: .ref a :: stk, h) = qF call o rt ini nL cc (pc + 3) l stk h a (pf (h.2.2 a) ci k (.int x)) := by
  rw [Rn_putfieldI hf hty hfin d]
  unfold qF
  cases (pf (h.2.2 a) ci k (.int x)) <;> rfl
theorem Rm_putfieldJ {idx a ci k p : Nat} {x : Int64} (hf : fl o idx = some (ci, k, p)) (hty : tyXs ci k = .long) (hfin : (!(TXs ci k).2.2.2 || (ini && o == ci)) = true) (d : decode cc pc = .ok (.putfield idx, 3)) : Rn call o rt ini nL cc (pc, l, .long x :: .ref a :: stk, h) = qF call o rt ini nL cc (pc + 3) l stk h a (pf (h.2.2 a) ci k (.long x)) := by
  rw [Rn_putfieldJ hf hty hfin d]
  unfold qF
  cases (pf (h.2.2 a) ci k (.long x)) <;> rfl
theorem Rm_putfieldZ {idx a ci k p : Nat} {x : Int32} (hf : fl o idx = some (ci, k, p)) (hty : tyXs ci k = .boolean) (hx : fitV .boolean (.int x) = true) (hfin : (!(TXs ci k).2.2.2 || (ini && o == ci)) = true) (d : decode cc pc = .ok (.putfield idx, 3)) : Rn call o rt ini nL cc (pc, l, .int x :: .ref a :: stk, h) = qF call o rt ini nL cc (pc + 3) l stk h a (pf (h.2.2 a) ci k (.int x)) := by
  rw [Rn_putfieldZ hf hty hx hfin d]
  unfold qF
  cases (pf (h.2.2 a) ci k (.int x)) <;> rfl
theorem Rm_putfieldR {idx a b ci k p : Nat} (hf : fl o idx = some (ci, k, p)) (hty : isRf (tyXs ci k) = true) (hfin : (!(TXs ci k).2.2.2 || (ini && o == ci)) = true) (d : decode cc pc = .ok (.putfield idx, 3)) : Rn call o rt ini nL cc (pc, l, .ref b :: .ref a :: stk, h) = qF call o rt ini nL cc (pc + 3) l stk h a (pf (h.2.2 a) ci k (.ref b)) := by
  rw [Rn_putfieldR hf hty hfin d]
  unfold qF
  cases (pf (h.2.2 a) ci k (.ref b)) <;> rfl
theorem Rm_iaload {i : Int32} {a : Nat} (d : decode cc pc = .ok (.iaload, 1)) : Rn call o rt ini nL cc (pc, l, .int i :: .ref a :: stk, h) = qI call o rt ini nL cc (pc + 1) l stk h (rdi 1 (h.2.2 a) i) := by
  rw [Rn_iaload d]
  unfold qI
  cases (rdi 1 (h.2.2 a) i) <;> rfl
theorem Rm_caload {i : Int32} {a : Nat} (d : decode cc pc = .ok (.caload, 1)) : Rn call o rt ini nL cc (pc, l, .int i :: .ref a :: stk, h) = qI call o rt ini nL cc (pc + 1) l stk h (rdi 0 (h.2.2 a) i) := by
  rw [Rn_caload d]
  unfold qI
  cases (rdi 0 (h.2.2 a) i) <;> rfl
theorem Rm_baload {i : Int32} {a : Nat} (d : decode cc pc = .ok (.baload, 1)) : Rn call o rt ini nL cc (pc, l, .int i :: .ref a :: stk, h) = qI call o rt ini nL cc (pc + 1) l stk h (rdi 4 (h.2.2 a) i) := by
  rw [Rn_baload d]
  unfold qI
  cases (rdi 4 (h.2.2 a) i) <;> rfl
theorem Rm_laload {i : Int32} {a : Nat} (d : decode cc pc = .ok (.laload, 1)) : Rn call o rt ini nL cc (pc, l, .int i :: .ref a :: stk, h) = qJ call o rt ini nL cc (pc + 1) l stk h (rdl (h.2.2 a) i) := by
  rw [Rn_laload d]
  unfold qJ
  cases (rdl (h.2.2 a) i) <;> rfl
theorem Rm_aaload {i : Int32} {a : Nat} (d : decode cc pc = .ok (.aaload, 1)) : Rn call o rt ini nL cc (pc, l, .int i :: .ref a :: stk, h) = qX call o rt ini nL cc (pc + 1) l stk h (rdr (h.2.2 a) i) := by
  rw [Rn_aaload d]
  unfold qX
  cases (rdr (h.2.2 a) i) <;> rfl
theorem Rm_iastore {i : Int32} {a : Nat} {x : Int32} (d : decode cc pc = .ok (.iastore, 1)) : Rn call o rt ini nL cc (pc, l, .int x :: .int i :: .ref a :: stk, h) = qW call o rt ini nL cc (pc + 1) l stk h a (wri 1 (h.2.2 a) i x) := by
  rw [Rn_iastore d]
  unfold qW
  cases (wri 1 (h.2.2 a) i x) <;> rfl
theorem Rm_lastore {i : Int32} {a : Nat} {x : Int64} (d : decode cc pc = .ok (.lastore, 1)) : Rn call o rt ini nL cc (pc, l, .long x :: .int i :: .ref a :: stk, h) = qW call o rt ini nL cc (pc + 1) l stk h a (wrl (h.2.2 a) i x) := by
  rw [Rn_lastore d]
  unfold qW
  cases (wrl (h.2.2 a) i x) <;> rfl
theorem Rm_arraylength {a : Nat} (d : decode cc pc = .ok (.arraylength, 1)) : Rn call o rt ini nL cc (pc, l, .ref a :: stk, h) = qI call o rt ini nL cc (pc + 1) l stk h (aln (h.2.2 a)) := by
  rw [Rn_arraylength d]
  unfold qI
  cases (aln (h.2.2 a)) <;> rfl
theorem Rm_inS0 {idx y kind p : Nat} (hm : ml o idx = some (y, kind, 0, p)) (hk : (kind == 1 || kind == 5) = true) (d : decode cc pc = .ok (.invokestatic idx, 3)) : Rn call o rt ini nL cc (pc, l, stk, h) = if len4 stk = true then qC call o rt ini nL cc (pc + 3) l stk h (call y [] h) else none := by
  rw [Rn_inS0 hm hk d]
  unfold qC
  cases (call y [] h) <;> rfl
theorem Rm_inS1 {idx y kind p : Nat} {v0 : Value} (hm : ml o idx = some (y, kind, 1, p)) (hk : (kind == 1 || kind == 5) = true) (d : decode cc pc = .ok (.invokestatic idx, 3)) : Rn call o rt ini nL cc (pc, l, v0 :: stk, h) = if len4 stk = true then qC call o rt ini nL cc (pc + 3) l stk h (call y [v0] h) else none := by
  rw [Rn_inS1 hm hk d]
  unfold qC
  cases (call y [v0] h) <;> rfl
theorem Rm_inS2 {idx y kind p : Nat} {v0 v1 : Value} (hm : ml o idx = some (y, kind, 2, p)) (hk : (kind == 1 || kind == 5) = true) (d : decode cc pc = .ok (.invokestatic idx, 3)) : Rn call o rt ini nL cc (pc, l, v1 :: v0 :: stk, h) = if len4 stk = true then qC call o rt ini nL cc (pc + 3) l stk h (call y [v0, v1] h) else none := by
  rw [Rn_inS2 hm hk d]
  unfold qC
  cases (call y [v0, v1] h) <;> rfl
theorem Rm_inS3 {idx y kind p : Nat} {v0 v1 v2 : Value} (hm : ml o idx = some (y, kind, 3, p)) (hk : (kind == 1 || kind == 5) = true) (d : decode cc pc = .ok (.invokestatic idx, 3)) : Rn call o rt ini nL cc (pc, l, v2 :: v1 :: v0 :: stk, h) = if len4 stk = true then qC call o rt ini nL cc (pc + 3) l stk h (call y [v0, v1, v2] h) else none := by
  rw [Rn_inS3 hm hk d]
  unfold qC
  cases (call y [v0, v1, v2] h) <;> rfl
theorem Rm_inS4 {idx y kind p : Nat} {v0 v1 v2 v3 : Value} (hm : ml o idx = some (y, kind, 4, p)) (hk : (kind == 1 || kind == 5) = true) (d : decode cc pc = .ok (.invokestatic idx, 3)) : Rn call o rt ini nL cc (pc, l, v3 :: v2 :: v1 :: v0 :: stk, h) = if len4 stk = true then qC call o rt ini nL cc (pc + 3) l stk h (call y [v0, v1, v2, v3] h) else none := by
  rw [Rn_inS4 hm hk d]
  unfold qC
  cases (call y [v0, v1, v2, v3] h) <;> rfl
theorem Rm_inS5 {idx y kind p : Nat} {v0 v1 v2 v3 v4 : Value} (hm : ml o idx = some (y, kind, 5, p)) (hk : (kind == 1 || kind == 5) = true) (d : decode cc pc = .ok (.invokestatic idx, 3)) : Rn call o rt ini nL cc (pc, l, v4 :: v3 :: v2 :: v1 :: v0 :: stk, h) = if len4 stk = true then qC call o rt ini nL cc (pc + 3) l stk h (call y [v0, v1, v2, v3, v4] h) else none := by
  rw [Rn_inS5 hm hk d]
  unfold qC
  cases (call y [v0, v1, v2, v3, v4] h) <;> rfl
theorem Rm_inS6 {idx y kind p : Nat} {v0 v1 v2 v3 v4 v5 : Value} (hm : ml o idx = some (y, kind, 6, p)) (hk : (kind == 1 || kind == 5) = true) (d : decode cc pc = .ok (.invokestatic idx, 3)) : Rn call o rt ini nL cc (pc, l, v5 :: v4 :: v3 :: v2 :: v1 :: v0 :: stk, h) = if len4 stk = true then qC call o rt ini nL cc (pc + 3) l stk h (call y [v0, v1, v2, v3, v4, v5] h) else none := by
  rw [Rn_inS6 hm hk d]
  unfold qC
  cases (call y [v0, v1, v2, v3, v4, v5] h) <;> rfl
theorem Rm_inS7 {idx y kind p : Nat} {v0 v1 v2 v3 v4 v5 v6 : Value} (hm : ml o idx = some (y, kind, 7, p)) (hk : (kind == 1 || kind == 5) = true) (d : decode cc pc = .ok (.invokestatic idx, 3)) : Rn call o rt ini nL cc (pc, l, v6 :: v5 :: v4 :: v3 :: v2 :: v1 :: v0 :: stk, h) = if len4 stk = true then qC call o rt ini nL cc (pc + 3) l stk h (call y [v0, v1, v2, v3, v4, v5, v6] h) else none := by
  rw [Rn_inS7 hm hk d]
  unfold qC
  cases (call y [v0, v1, v2, v3, v4, v5, v6] h) <;> rfl
theorem Rm_inV0 {idx y kind p a : Nat} (hm : ml o idx = some (y, kind, 0, p)) (hk : (kind == 0 || kind == 4) = true) {ci : Nat} (hy : (MT[y]?).map (fun e => e.2.1) = some ci) (h13 : (ci == 13) = false) (d : decode cc pc = .ok (.invokevirtual idx, 3)) : Rn call o rt ini nL cc (pc, l, .ref a :: stk, h) = if len4 stk = true then (if isO (h.2.2 a) (if ci = 15 then 13 else ci) = true then qC call o rt ini nL cc (pc + 3) l stk h (call y [.ref a] h) else none) else none := by
  rw [Rn_inV0 hm hk hy h13 d]
  unfold qC
  cases (call y [.ref a] h) <;> rfl
theorem Rm_inV1 {idx y kind p a : Nat} {v0 : Value} (hm : ml o idx = some (y, kind, 1, p)) (hk : (kind == 0 || kind == 4) = true) {ci : Nat} (hy : (MT[y]?).map (fun e => e.2.1) = some ci) (h13 : (ci == 13) = false) (d : decode cc pc = .ok (.invokevirtual idx, 3)) : Rn call o rt ini nL cc (pc, l, v0 :: .ref a :: stk, h) = if len4 stk = true then (if isO (h.2.2 a) (if ci = 15 then 13 else ci) = true then qC call o rt ini nL cc (pc + 3) l stk h (call y [.ref a, v0] h) else none) else none := by
  rw [Rn_inV1 hm hk hy h13 d]
  unfold qC
  cases (call y [.ref a, v0] h) <;> rfl
theorem Rm_inV2 {idx y kind p a : Nat} {v0 v1 : Value} (hm : ml o idx = some (y, kind, 2, p)) (hk : (kind == 0 || kind == 4) = true) {ci : Nat} (hy : (MT[y]?).map (fun e => e.2.1) = some ci) (h13 : (ci == 13) = false) (d : decode cc pc = .ok (.invokevirtual idx, 3)) : Rn call o rt ini nL cc (pc, l, v1 :: v0 :: .ref a :: stk, h) = if len4 stk = true then (if isO (h.2.2 a) (if ci = 15 then 13 else ci) = true then qC call o rt ini nL cc (pc + 3) l stk h (call y [.ref a, v0, v1] h) else none) else none := by
  rw [Rn_inV2 hm hk hy h13 d]
  unfold qC
  cases (call y [.ref a, v0, v1] h) <;> rfl
theorem Rm_inV3 {idx y kind p a : Nat} {v0 v1 v2 : Value} (hm : ml o idx = some (y, kind, 3, p)) (hk : (kind == 0 || kind == 4) = true) {ci : Nat} (hy : (MT[y]?).map (fun e => e.2.1) = some ci) (h13 : (ci == 13) = false) (d : decode cc pc = .ok (.invokevirtual idx, 3)) : Rn call o rt ini nL cc (pc, l, v2 :: v1 :: v0 :: .ref a :: stk, h) = if len4 stk = true then (if isO (h.2.2 a) (if ci = 15 then 13 else ci) = true then qC call o rt ini nL cc (pc + 3) l stk h (call y [.ref a, v0, v1, v2] h) else none) else none := by
  rw [Rn_inV3 hm hk hy h13 d]
  unfold qC
  cases (call y [.ref a, v0, v1, v2] h) <;> rfl
theorem Rm_inV4 {idx y kind p a : Nat} {v0 v1 v2 v3 : Value} (hm : ml o idx = some (y, kind, 4, p)) (hk : (kind == 0 || kind == 4) = true) {ci : Nat} (hy : (MT[y]?).map (fun e => e.2.1) = some ci) (h13 : (ci == 13) = false) (d : decode cc pc = .ok (.invokevirtual idx, 3)) : Rn call o rt ini nL cc (pc, l, v3 :: v2 :: v1 :: v0 :: .ref a :: stk, h) = if len4 stk = true then (if isO (h.2.2 a) (if ci = 15 then 13 else ci) = true then qC call o rt ini nL cc (pc + 3) l stk h (call y [.ref a, v0, v1, v2, v3] h) else none) else none := by
  rw [Rn_inV4 hm hk hy h13 d]
  unfold qC
  cases (call y [.ref a, v0, v1, v2, v3] h) <;> rfl
theorem Rm_inV5 {idx y kind p a : Nat} {v0 v1 v2 v3 v4 : Value} (hm : ml o idx = some (y, kind, 5, p)) (hk : (kind == 0 || kind == 4) = true) {ci : Nat} (hy : (MT[y]?).map (fun e => e.2.1) = some ci) (h13 : (ci == 13) = false) (d : decode cc pc = .ok (.invokevirtual idx, 3)) : Rn call o rt ini nL cc (pc, l, v4 :: v3 :: v2 :: v1 :: v0 :: .ref a :: stk, h) = if len4 stk = true then (if isO (h.2.2 a) (if ci = 15 then 13 else ci) = true then qC call o rt ini nL cc (pc + 3) l stk h (call y [.ref a, v0, v1, v2, v3, v4] h) else none) else none := by
  rw [Rn_inV5 hm hk hy h13 d]
  unfold qC
  cases (call y [.ref a, v0, v1, v2, v3, v4] h) <;> rfl
theorem Rm_inV6 {idx y kind p a : Nat} {v0 v1 v2 v3 v4 v5 : Value} (hm : ml o idx = some (y, kind, 6, p)) (hk : (kind == 0 || kind == 4) = true) {ci : Nat} (hy : (MT[y]?).map (fun e => e.2.1) = some ci) (h13 : (ci == 13) = false) (d : decode cc pc = .ok (.invokevirtual idx, 3)) : Rn call o rt ini nL cc (pc, l, v5 :: v4 :: v3 :: v2 :: v1 :: v0 :: .ref a :: stk, h) = if len4 stk = true then (if isO (h.2.2 a) (if ci = 15 then 13 else ci) = true then qC call o rt ini nL cc (pc + 3) l stk h (call y [.ref a, v0, v1, v2, v3, v4, v5] h) else none) else none := by
  rw [Rn_inV6 hm hk hy h13 d]
  unfold qC
  cases (call y [.ref a, v0, v1, v2, v3, v4, v5] h) <;> rfl
theorem Rm_inI0 {idx y kind p a : Nat} (hm : ml o idx = some (y, kind, 0, p)) (hk : (kind == 2 || kind == 3) = true) (d : decode cc pc = .ok (.invokespecial idx, 3)) : Rn call o rt ini nL cc (pc, l, .ref a :: stk, h) = if len4 stk = true then qC call o rt ini nL cc (pc + 3) l stk h (call y [.ref a] h) else none := by
  rw [Rn_inI0 hm hk d]
  unfold qC
  cases (call y [.ref a] h) <;> rfl
theorem Rm_inCopy {idx y n p a b : Nat} {sp dp k : Int32} (hm : ml o idx = some (y, 6, n, p)) (d : decode cc pc = .ok (.invokestatic idx, 3)) : Rn call o rt ini nL cc (pc, l, .int k :: .int dp :: .ref b :: .int sp :: .ref a :: stk, h) = if len4 stk = true then qW call o rt ini nL cc (pc + 3) l stk h b (acp (h.2.2 a) (h.2.2 b) sp dp k) else none := by
  rw [Rn_inCopy hm d]
  unfold qW
  cases (acp (h.2.2 a) (h.2.2 b) sp dp k) <;> rfl
end
theorem lk_filter_none (P : Nat × Value → Bool) (j : Nat) : ∀ l : Lo, (∀ q ∈ l, P q = true → ¬ q.1 = j) → lk (l.filter P) j = none := by
  intro l
  induction l with
  | nil => intro _; rfl
  | cons q r ih =>
    intro h
    rw [List.filter_cons]
    split
    · rename_i hq
      obtain ⟨k, w⟩ := q
      rw [lk_cons]
      have := h (k, w) (List.mem_cons_self ..) hq
      have e : (k == j) = false := by simpa using this
      rw [e]
      exact ih (fun q hq => h q (List.mem_cons_of_mem _ hq))
    · exact ih (fun q hq => h q (List.mem_cons_of_mem _ hq))
theorem lk_pt2i (i j : Nat) (v : Value) (l : Lo) : lk (pt2 i v l) j = if (i == j) = true then some v else if (j == i + 1) = true then none else if (j + 1 == i) = true then (if isJ (lk l j) = true then lk (rm2 i l) j else lk l j) else lk l j := by
  by_cases h : i = j
  · subst h
    unfold pt2
    rw [lk_cons]
    simp
  · have hb : (i == j) = false := by simpa using h
    rw [hb]
    simp only [Bool.false_eq_true, if_false]
    by_cases h2 : j = i + 1
    · subst h2
      simp only [beq_self_eq_true, if_true]
      unfold pt2
      rw [lk_cons, hb]
      simp only [Bool.false_eq_true, if_false]
      unfold rm2
      refine lk_filter_none _ _ l (fun q _ hq e => ?_)
      simp [e] at hq
    · have h2b : (j == i + 1) = false := by simpa using h2
      rw [h2b]
      simp only [Bool.false_eq_true, if_false]
      by_cases h3 : j + 1 = i
      · have h3b : (j + 1 == i) = true := by simpa using h3
        rw [if_pos h3b]
        by_cases h4 : isJ (lk l j) = true
        · rw [if_pos h4]
          unfold pt2
          rw [lk_cons, hb]
          simp
        · rw [if_neg h4]
          exact lk_pt2b i j v l h3b (by simpa using h4)
      · have h3b : (j + 1 == i) = false := by simpa using h3
        rw [h3b]
        simp only [Bool.false_eq_true, if_false]
        rw [lk_pt2 i j v l h2b h3b, hb]
        simp

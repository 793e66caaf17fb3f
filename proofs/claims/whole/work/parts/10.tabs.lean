/-! THE ABSTRACT MACHINE IS SOUND, third: what an entry of the tables gives -/
theorem chunk_mem {α : Type} {l : List α} {f : α → Bool} {a n : Nat} (h : ((l.drop a).take n).all f = true) {i : Nat} (h1 : a ≤ i) (h2 : i < a + n) {q : α} (hq : l[i]? = some q) : f q = true := by
  refine List.all_eq_true.mp h q (List.mem_of_getElem? (i := i - a) ?_)
  rw [List.getElem?_take_of_lt (by omega), List.getElem?_drop, show a + (i - a) = i by omega]
  exact hq
theorem mtb_len : mtb.length = 346 := by decide +kernel
theorem MT_len : MT.length = 291 := by decide +kernel
theorem okCall_mem {q : Nat × Nat × Nat × Nat × Nat × Nat} (h : q ∈ mtb) : okCall q = true := by
  obtain ⟨i, hi⟩ := List.getElem?_of_mem h
  have hl := (List.getElem?_eq_some_iff.mp hi).1
  rw [mtb_len] at hl
  by_cases h1 : i < 35
  · exact chunk_mem okCall_0 (by omega) (by omega) hi
  by_cases h2 : i < 70
  · exact chunk_mem okCall_35 (by omega) (by omega) hi
  by_cases h3 : i < 105
  · exact chunk_mem okCall_70 (by omega) (by omega) hi
  by_cases h4 : i < 140
  · exact chunk_mem okCall_105 (by omega) (by omega) hi
  by_cases h5 : i < 175
  · exact chunk_mem okCall_140 (by omega) (by omega) hi
  by_cases h6 : i < 210
  · exact chunk_mem okCall_175 (by omega) (by omega) hi
  by_cases h7 : i < 245
  · exact chunk_mem okCall_210 (by omega) (by omega) hi
  by_cases h8 : i < 280
  · exact chunk_mem okCall_245 (by omega) (by omega) hi
  by_cases h9 : i < 315
  · exact chunk_mem okCall_280 (by omega) (by omega) hi
  · exact chunk_mem okCall_315 (by omega) (by omega) hi
theorem okM_at {y : Nat} {e : MethodName × Nat × ByteArray × Nat × Option FieldType × Nat × Bool × Nat × Nat × Nat × Nat} (h : MT[y]? = some e) (hy : y < 290) : okM e = true := by
  by_cases h1 : y < 29
  · exact chunk_mem okM_0 (by omega) (by omega) h
  by_cases h2 : y < 58
  · exact chunk_mem okM_29 (by omega) (by omega) h
  by_cases h3 : y < 87
  · exact chunk_mem okM_58 (by omega) (by omega) h
  by_cases h4 : y < 116
  · exact chunk_mem okM_87 (by omega) (by omega) h
  by_cases h5 : y < 145
  · exact chunk_mem okM_116 (by omega) (by omega) h
  by_cases h6 : y < 174
  · exact chunk_mem okM_145 (by omega) (by omega) h
  by_cases h7 : y < 203
  · exact chunk_mem okM_174 (by omega) (by omega) h
  by_cases h8 : y < 232
  · exact chunk_mem okM_203 (by omega) (by omega) h
  by_cases h9 : y < 261
  · exact chunk_mem okM_232 (by omega) (by omega) h
  · exact chunk_mem okM_261 (by omega) (by omega) h
set_option maxRecDepth 100000 in
theorem code_at {y : Nat} {e : MethodName × Nat × ByteArray × Nat × Option FieldType × Nat × Bool × Nat × Nat × Nat × Nat} (h : MT[y]? = some e) (hy : y < 290) : Cond.code e.1 e.2.2.1 e.2.2.2.1 e.2.2.2.2.1 ∈ Gl := by
  have hm : ∀ e ∈ MT.take 290, Cond.code e.1 e.2.2.1 e.2.2.2.1 e.2.2.2.2.1 ∈ Gl := by
    have : MT.take 290 = MT_0 ++ (MT_1 ++ (MT_2 ++ (MT_3 ++ (MT_4 ++ (MT_5 ++ (MT_6 ++ (MT_7 ++ (MT_8 ++ MT_9.take 20)))))))) := by rfl
    rw [this]
    intro e he
    simp only [List.mem_append] at he
    rcases he with h | h | h | h | h | h | h | h | h | h
    · exact cds_0 e h
    · exact cds_1 e h
    · exact cds_2 e h
    · exact cds_3 e h
    · exact cds_4 e h
    · exact cds_5 e h
    · exact cds_6 e h
    · exact cds_7 e h
    · exact cds_8 e h
    · exact cds_9 e h
  refine hm e (List.mem_of_getElem? (i := y) ?_)
  rw [List.getElem?_take_of_lt hy]
  exact h
theorem fl_ok {o idx ci k p : Nat} (h : fl o idx = some (ci, k, p)) : okF (o, idx, ci, k, p) = true := by
  unfold fl at h
  obtain ⟨q, hq, e⟩ := Option.map_eq_some_iff.mp h
  have h1 := List.find?_some hq
  simp only [Bool.and_eq_true, beq_iff_eq] at h1
  have h2 := List.all_eq_true.mp okF_all q (List.mem_of_find?_eq_some hq)
  obtain ⟨a, b, c⟩ := q
  simp only at h1 e
  rw [← h1.1, ← h1.2, ← e]
  exact h2
theorem ml_ok {o idx y k n p : Nat} (h : ml o idx = some (y, k, n, p)) : okCall (o, idx, y, k, n, p) = true := by
  unfold ml at h
  obtain ⟨q, hq, e⟩ := Option.map_eq_some_iff.mp h
  have h1 := List.find?_some hq
  simp only [Bool.and_eq_true, beq_iff_eq] at h1
  have h2 := okCall_mem (List.mem_of_find?_eq_some hq)
  obtain ⟨a, b, c⟩ := q
  simp only at h1 e
  rw [← h1.1, ← h1.2, ← e]
  exact h2
theorem cl_ok {o idx ci p1 p2 p3 : Nat} (h : cl_ o idx = some (ci, p1, p2, p3)) : okCl (o, idx, ci, p1, p2, p3) = true := by
  unfold cl_ at h
  obtain ⟨q, hq, e⟩ := Option.map_eq_some_iff.mp h
  have h1 := List.find?_some hq
  simp only [Bool.and_eq_true, beq_iff_eq] at h1
  have h2 := List.all_eq_true.mp okCl_all q (List.mem_of_find?_eq_some hq)
  obtain ⟨a, b, c⟩ := q
  simp only at h1 e
  rw [← h1.1, ← h1.2, ← e]
  exact h2
theorem kl_ok {o idx p : Nat} {v : Int32} (h : kl o idx = some (v, p)) : okK (o, idx, v, p) = true := by
  unfold kl at h
  obtain ⟨q, hq, e⟩ := Option.map_eq_some_iff.mp h
  have h1 := List.find?_some hq
  simp only [Bool.and_eq_true, beq_iff_eq] at h1
  have h2 := List.all_eq_true.mp okK_all q (List.mem_of_find?_eq_some hq)
  obtain ⟨a, b, c⟩ := q
  simp only at h1 e
  rw [← h1.1, ← h1.2, ← e]
  exact h2
theorem ll_ok {o idx p : Nat} {v : Int64} (h : ll o idx = some (v, p)) : okLg (o, idx, v, p) = true := by
  unfold ll at h
  obtain ⟨q, hq, e⟩ := Option.map_eq_some_iff.mp h
  have h1 := List.find?_some hq
  simp only [Bool.and_eq_true, beq_iff_eq] at h1
  have h2 := List.all_eq_true.mp okLg_all q (List.mem_of_find?_eq_some hq)
  obtain ⟨a, b, c⟩ := q
  simp only at h1 e
  rw [← h1.1, ← h1.2, ← e]
  exact h2
theorem gl_ok {o idx w n p : Nat} (h : gl o idx = some (w, n, p)) : okG (o, idx, w, n, p) = true := by
  unfold gl at h
  obtain ⟨q, hq, e⟩ := Option.map_eq_some_iff.mp h
  have h1 := List.find?_some hq
  simp only [Bool.and_eq_true, beq_iff_eq] at h1
  have h2 := List.all_eq_true.mp okG_all q (List.mem_of_find?_eq_some hq)
  obtain ⟨a, b, c⟩ := q
  simp only at h1 e
  rw [← h1.1, ← h1.2, ← e]
  exact h2

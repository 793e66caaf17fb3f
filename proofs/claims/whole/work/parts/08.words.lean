/-! THE ABSTRACT MACHINE IS SOUND, second: the words that the tables stand for -/
def Gl : List Cond := lw_tbl.filter goodWord
def tbk : Nat → List Cond
  | 0 => tables_1_1
  | 1 => tables_1_2
  | 2 => tables_1_3
  | 3 => tables_1_4
  | 4 => tables_1_5
  | 5 => tables_1_6
  | 6 => tables_1_7
  | _ => tables_1_8
def prk : Nat → List (MethodName × Nat)
  | 0 => lw_privs_1
  | 1 => lw_privs_2
  | 2 => lw_privs_3
  | 3 => lw_privs_4
  | 4 => lw_privs_5
  | 5 => lw_privs_6
  | 6 => lw_privs_7
  | 7 => lw_privs_8
  | _ => lw_privs_9
/-- the word at place p of lw_tbl: the first 136 are the private methods' own -/
def Gat (p : Nat) (w : Cond) : Bool := goodWord w && (if p < 136 then decide (((prk (p / 16))[p % 16]?).map (fun q => Cond.selects q.1.cls q.1 q.1) = some w) else decide ((tbk ((p - 136) / 240))[(p - 136) % 240]? = some w))
theorem tbk_in {k : Nat} {w : Cond} (h : w ∈ tbk k) : w ∈ tables_1 := by
  have e : w ∈ tables_1_1 ∨ w ∈ tables_1_2 ∨ w ∈ tables_1_3 ∨ w ∈ tables_1_4 ∨ w ∈ tables_1_5 ∨ w ∈ tables_1_6 ∨ w ∈ tables_1_7 ∨ w ∈ tables_1_8 := by
    match k, h with
    | 0, h => exact Or.inl h
    | 1, h => exact Or.inr (Or.inl h)
    | 2, h => exact Or.inr (Or.inr (Or.inl h))
    | 3, h => exact Or.inr (Or.inr (Or.inr (Or.inl h)))
    | 4, h => exact Or.inr (Or.inr (Or.inr (Or.inr (Or.inl h))))
    | 5, h => exact Or.inr (Or.inr (Or.inr (Or.inr (Or.inr (Or.inl h)))))
    | 6, h => exact Or.inr (Or.inr (Or.inr (Or.inr (Or.inr (Or.inr (Or.inl h))))))
    | k + 7, h => exact Or.inr (Or.inr (Or.inr (Or.inr (Or.inr (Or.inr (Or.inr h))))))
  unfold tables_1
  simp only [List.mem_append]
  exact e
theorem prk_in {k : Nat} {q : MethodName × Nat} (h : q ∈ prk k) : q ∈ lw_privs := by
  have e : q ∈ lw_privs_1 ∨ q ∈ lw_privs_2 ∨ q ∈ lw_privs_3 ∨ q ∈ lw_privs_4 ∨ q ∈ lw_privs_5 ∨ q ∈ lw_privs_6 ∨ q ∈ lw_privs_7 ∨ q ∈ lw_privs_8 ∨ q ∈ lw_privs_9 := by
    match k, h with
    | 0, h => exact Or.inl h
    | 1, h => exact Or.inr (Or.inl h)
    | 2, h => exact Or.inr (Or.inr (Or.inl h))
    | 3, h => exact Or.inr (Or.inr (Or.inr (Or.inl h)))
    | 4, h => exact Or.inr (Or.inr (Or.inr (Or.inr (Or.inl h))))
    | 5, h => exact Or.inr (Or.inr (Or.inr (Or.inr (Or.inr (Or.inl h)))))
    | 6, h => exact Or.inr (Or.inr (Or.inr (Or.inr (Or.inr (Or.inr (Or.inl h))))))
    | 7, h => exact Or.inr (Or.inr (Or.inr (Or.inr (Or.inr (Or.inr (Or.inr (Or.inl h)))))))
    | k + 8, h => exact Or.inr (Or.inr (Or.inr (Or.inr (Or.inr (Or.inr (Or.inr (Or.inr h)))))))
  unfold lw_privs
  simp only [List.mem_append]
  first | exact e | simpa [or_assoc] using e
theorem Gat_in {p : Nat} {w : Cond} (h : Gat p w = true) : w ∈ Gl := by
  simp only [Gat, Bool.and_eq_true] at h
  refine List.mem_filter.mpr ⟨?_, h.1⟩
  have h2 := h.2
  by_cases hp : p < 136
  · rw [if_pos hp, decide_eq_true_eq] at h2
    obtain ⟨q, hq, rfl⟩ := Option.map_eq_some_iff.mp h2
    exact List.mem_append_left _ (List.mem_map.mpr ⟨q, prk_in (List.mem_of_getElem? hq), rfl⟩)
  · rw [if_neg hp, decide_eq_true_eq] at h2
    exact List.mem_append_right _ (tbk_in (List.mem_of_getElem? h2))
theorem Gl_good {ws : List Cond} (h : ∀ w ∈ ws, w ∈ Gl) : GoodIn Gl ws := fun w hw => ⟨h w hw, good_of_word (List.mem_filter.mp (h w hw)).2⟩
def nam (o : Nat) (a b : String) : Bool := decide (ownS o = a) && decide (a = b)
def mthD : List String := ["(I)I", "(II)I", "(JJ)J"]
theorem mth_rows : (Jvm.natives.all fun r => !(r.cls == "java/lang/Math") || !(mthD.contains r.desc)) = true := by decide +kernel
/-- no row of the machine's own runs instead of the method's code -/
def plM (x : MethodName) : Bool := plainName x.cls || (x.cls == "java/lang/Math" && mthD.contains x.desc)
theorem plM_for {x : MethodName} (h : plM x = true) : plainFor x = true := by
  unfold plM at h
  rcases Bool.or_eq_true _ _ |>.mp h with h | h
  · exact plainFor_of_name h
  · obtain ⟨h1, h2⟩ := Bool.and_eq_true _ _ |>.mp h
    unfold plainFor
    rw [Bool.or_eq_true]
    right
    rw [Option.isNone_iff_eq_none, NativeRow.find?, List.find?_eq_none]
    intro r hr hq
    have hz := List.all_eq_true.mp mth_rows r hr
    simp only [Bool.and_eq_true, beq_iff_eq] at hq
    rw [hq.1.2, hq.2, h1, h2] at hz
    simp at hz
/-- a method's entry -/
def okM (e : MethodName × Nat × ByteArray × Nat × Option FieldType × Nat × Bool × Nat × Nat × Nat × Nat) : Bool :=
  decide (e.1.cls = ownS e.2.1) && plM e.1 && Gat e.2.2.2.2.2.2.2.2.2.2 (.initialized e.1.cls) && decide ((parseMethodDescriptor e.1.desc).map (fun d => d.parameters.length) = some e.2.2.2.2.2.1) && decide (e.1.cls ≠ "java/lang/invoke/MethodHandle") && decide (e.1.cls ≠ "java/lang/invoke/VarHandle") && decide (e.2.2.2.1 ≤ 40) && decide (e.2.2.2.2.2.2.1 = decide (e.1.name = "<init>"))
def lawY : Nat := 290
/-- a call's entry: own class, entry, method, kind, parameters, place -/
def okCall (q : Nat × Nat × Nat × Nat × Nat × Nat) : Bool :=
  match q.2.2.2.1 with
  | 6 => Gat q.2.2.2.2.2 (.methodLink (ownS q.1) q.2.1 arraycopyName)
  | 7 => Gat q.2.2.2.2.2 (.methodLink (ownS q.1) q.2.1 objectInit)
  | k => match MT[q.2.2.1]? with
    | none => false
    | some e => decide (q.2.2.2.2.1 = e.2.2.2.2.2.1) && (if k = 0 ∨ k = 1 ∨ k = 2 then Gat q.2.2.2.2.2 (.methodLink (ownS q.1) q.2.1 e.1) else decide (nestW[q.2.2.2.2.2]? = some (.methodLinkNest (ownS q.1) q.2.1 e.1 "MoodBread"))) &&
      (if k = 1 ∨ k = 5 then Gat e.2.2.2.2.2.2.2.2.1 (.static e.1) else Gat e.2.2.2.2.2.2.2.2.1 (.instanceMethod e.1)) && (if k = 0 ∨ k = 4 then Gat e.2.2.2.2.2.2.2.2.2.1 (.selects e.1.cls e.1 e.1) else true) && (if k = 2 ∨ k = 3 then decide (e.1.name = "<init>") && decide (e.2.2.2.2.1 = none) else true) && decide (k ≤ 5)
def okF (q : Nat × Nat × Nat × Nat × Nat) : Bool := Gat q.2.2.2.2 (.fieldLink (ownS q.1) q.2.1 (TXs q.2.2.1 q.2.2.2.1).1 (TXs q.2.2.1 q.2.2.2.1).2.1 (TXs q.2.2.1 q.2.2.2.1).2.2.1) && decide (q.2.2.1 ≤ 13) && decide (q.2.2.2.1 < NXs q.2.2.1)
def okCl (q : Nat × Nat × Nat × Nat × Nat × Nat) : Bool := Gat q.2.2.2.1 (.classLink (ownS q.1) q.2.1 (ownS q.2.2.1)) && Gat q.2.2.2.2.1 (.instantiable (ownS q.2.2.1) (NXs q.2.2.1)) && Gat q.2.2.2.2.2 (.initialized (ownS q.2.2.1)) && decide (q.2.2.1 < 13)
def okK (q : Nat × Nat × Int32 × Nat) : Bool := Gat q.2.2.2 (.constant (ownS q.1) q.2.1 q.2.2.1)
def okLg (q : Nat × Nat × Int64 × Nat) : Bool := Gat q.2.2.2 (.constantLong (ownS q.1) q.2.1 q.2.2.1)
def gsN (k : Nat) : String × String × String := match k with
  | 0 => ("java/lang/String", "COMPACT_STRINGS", "Z")
  | 1 => ("MoodBread", "MOST_OF", "[I")
  | _ => ("jdk/internal/util/Preconditions", "SIOOBE_FORMATTER", "Ljava/util/function/BiFunction;")
def okG (q : Nat × Nat × Nat × Nat × Nat) : Bool := if q.2.2.2.1 = 0 then Gat q.2.2.2.2 (.fieldLink (ownS q.1) q.2.1 (gsN q.2.2.1).1 (gsN q.2.2.1).2.1 (gsN q.2.2.1).2.2) else decide (nestW[q.2.2.2.2]? = some (.fieldLinkNest (ownS q.1) q.2.1 (gsN q.2.2.1).1 (gsN q.2.2.1).2.1 (gsN q.2.2.1).2.2 "MoodBread"))
set_option maxRecDepth 100000 in
theorem okF_all : ftb.all okF = true := by decide +kernel
set_option maxRecDepth 100000 in
theorem okCl_all : ctb.all okCl = true := by decide +kernel
set_option maxRecDepth 100000 in
theorem okK_all : ktb.all okK = true := by decide +kernel
set_option maxRecDepth 100000 in
theorem okLg_all : ltb.all okLg = true := by decide +kernel
set_option maxRecDepth 100000 in
theorem okG_all : gtb.all okG = true := by decide +kernel
set_option maxRecDepth 100000 in
theorem okM_0 : ((MT.drop 0).take 29).all okM = true := by decide +kernel
set_option maxRecDepth 100000 in
theorem okM_29 : ((MT.drop 29).take 29).all okM = true := by decide +kernel
set_option maxRecDepth 100000 in
theorem okM_58 : ((MT.drop 58).take 29).all okM = true := by decide +kernel
set_option maxRecDepth 100000 in
theorem okM_87 : ((MT.drop 87).take 29).all okM = true := by decide +kernel
set_option maxRecDepth 100000 in
theorem okM_116 : ((MT.drop 116).take 29).all okM = true := by decide +kernel
set_option maxRecDepth 100000 in
theorem okM_145 : ((MT.drop 145).take 29).all okM = true := by decide +kernel
set_option maxRecDepth 100000 in
theorem okM_174 : ((MT.drop 174).take 29).all okM = true := by decide +kernel
set_option maxRecDepth 100000 in
theorem okM_203 : ((MT.drop 203).take 29).all okM = true := by decide +kernel
set_option maxRecDepth 100000 in
theorem okM_232 : ((MT.drop 232).take 29).all okM = true := by decide +kernel
set_option maxRecDepth 100000 in
theorem okM_261 : ((MT.drop 261).take 29).all okM = true := by decide +kernel
set_option maxRecDepth 100000 in
theorem okCall_0 : ((mtb.drop 0).take 35).all okCall = true := by decide +kernel
set_option maxRecDepth 100000 in
theorem okCall_35 : ((mtb.drop 35).take 35).all okCall = true := by decide +kernel
set_option maxRecDepth 100000 in
theorem okCall_70 : ((mtb.drop 70).take 35).all okCall = true := by decide +kernel
set_option maxRecDepth 100000 in
theorem okCall_105 : ((mtb.drop 105).take 35).all okCall = true := by decide +kernel
set_option maxRecDepth 100000 in
theorem okCall_140 : ((mtb.drop 140).take 35).all okCall = true := by decide +kernel
set_option maxRecDepth 100000 in
theorem okCall_175 : ((mtb.drop 175).take 35).all okCall = true := by decide +kernel
set_option maxRecDepth 100000 in
theorem okCall_210 : ((mtb.drop 210).take 35).all okCall = true := by decide +kernel
set_option maxRecDepth 100000 in
theorem okCall_245 : ((mtb.drop 245).take 35).all okCall = true := by decide +kernel
set_option maxRecDepth 100000 in
theorem okCall_280 : ((mtb.drop 280).take 35).all okCall = true := by decide +kernel
set_option maxRecDepth 100000 in
theorem okCall_315 : ((mtb.drop 315).take 35).all okCall = true := by decide +kernel
theorem nest_kind : ∀ w ∈ nestW, w.onTables = true ∧ ((∃ a i x h, w = .methodLinkNest a i x h) ∨ ∃ a i b n d h, w = .fieldLinkNest a i b n d h) := by
  intro w hw
  simp only [nestW, List.mem_cons, List.not_mem_nil, or_false] at hw
  rcases hw with rfl | rfl | rfl | rfl | rfl | rfl | rfl | rfl | rfl | rfl | rfl | rfl | rfl | rfl | rfl | rfl | rfl | rfl | rfl | rfl | rfl <;> first | exact ⟨rfl, Or.inl ⟨_, _, _, _, rfl⟩⟩ | exact ⟨rfl, Or.inr ⟨_, _, _, _, _, _, rfl⟩⟩
theorem arrI_in : Cond.arrayClass .int ∈ Gl := Gat_in (p := 223) (by decide +kernel)
theorem arrC_in : Cond.arrayClass .char ∈ Gl := Gat_in (p := 1486) (by decide +kernel)
theorem arrJ_in : Cond.arrayClass .long ∈ Gl := Gat_in (p := 1487) (by decide +kernel)
def lyP : List (List Nat) := [[255, 257], [229, 231], [482, 484, 486, 488, 490, 492, 494, 496], [454, 456, 458], [509, 511], [394], [204, 206, 208, 210, 212, 214, 216, 218, 220], [430, 432, 434, 436, 438], [382, 384, 386, 388, 390], [328, 330, 332, 334, 336, 338, 340, 342, 344, 346, 348, 350, 352, 354, 356, 358], [237, 239], [531, 533, 535, 537, 539, 541, 543, 545, 547, 549, 551, 553, 555, 557, 559, 561, 563], [1279, 1281, 1283, 1285, 1287, 1289, 1291, 1293, 1295, 1297, 1299, 1301, 1303, 1305, 1307, 1309, 1311, 1313, 1315, 1317, 1319, 1321, 1323, 1325, 1327, 1329, 1331, 1333, 1335, 1337, 1339, 1341, 1343, 1345, 1347, 1349, 1351, 1353, 1355, 1357, 1359, 1361, 1363, 1365, 1367, 1369, 1371, 1373, 1375, 1377, 1379, 1381, 1383, 1385, 1387, 1389, 1391, 1393, 1395, 1397, 1399, 1401, 1403, 1405, 1407, 1409, 1411, 1413, 1415, 1417, 1419, 1421, 1423, 1425, 1427, 1429, 1431, 1433, 1435, 1437, 1439, 1441, 1443, 1445, 1447, 1449, 1451, 1453, 1455, 1457, 1459, 1461, 1463, 1465, 1467, 1469, 1471, 1473, 1475, 1477, 1479, 1481, 1483]]
def okLy (ci : Nat) : Bool := (List.range (NXs ci)).all fun k => Gat ((lyP.getD ci []).getD k 0) (u_lay (ownS ci) (TXs ci) k)
set_option maxRecDepth 100000 in
theorem okLy_all : (List.range 13).all okLy = true := by decide +kernel
theorem ws_in {ci : Nat} (h : ci < 13) : ∀ w ∈ u_ws (ownS ci) (TXs ci) (NXs ci), w ∈ Gl := by
  intro w hw
  obtain ⟨k, hk, rfl⟩ := List.mem_map.mp hw
  have h1 := List.all_eq_true.mp okLy_all ci (List.mem_range.mpr h)
  exact Gat_in (List.all_eq_true.mp h1 k hk)
theorem ty_in {ci : Nat} (h : ci < 13) : ∀ k, k < NXs ci → parseFieldDescriptor (TXs ci k).2.2.1 = some (tyXs ci k) := by
  have : ci = 0 ∨ ci = 1 ∨ ci = 2 ∨ ci = 3 ∨ ci = 4 ∨ ci = 5 ∨ ci = 6 ∨ ci = 7 ∨ ci = 8 ∨ ci = 9 ∨ ci = 10 ∨ ci = 11 ∨ ci = 12 := by omega
  rcases this with rfl | rfl | rfl | rfl | rfl | rfl | rfl | rfl | rfl | rfl | rfl | rfl | rfl
  · exact tyX0_ok
  · exact tyX1_ok
  · exact tyX2_ok
  · exact tyX3_ok
  · exact tyX4_ok
  · exact tyX5_ok
  · exact tyX6_ok
  · exact tyX7_ok
  · exact tyX8_ok
  · exact tyX9_ok
  · exact tyX10_ok
  · exact tyX11_ok
  · exact tyX12_ok
theorem nm_in {ci : Nat} (h : ci < 13) : ∀ a, a < NXs ci → ∀ b, b < NXs ci → a ≠ b → (TXs ci a).2.1 ≠ (TXs ci b).2.1 := by
  have : ci = 0 ∨ ci = 1 ∨ ci = 2 ∨ ci = 3 ∨ ci = 4 ∨ ci = 5 ∨ ci = 6 ∨ ci = 7 ∨ ci = 8 ∨ ci = 9 ∨ ci = 10 ∨ ci = 11 ∨ ci = 12 := by omega
  rcases this with rfl | rfl | rfl | rfl | rfl | rfl | rfl | rfl | rfl | rfl | rfl | rfl | rfl
  · exact nmX0
  · exact nmX1
  · exact nmX2
  · exact nmX3
  · exact nmX4
  · exact nmX5
  · exact nmX6
  · exact nmX7
  · exact nmX8
  · exact nmX9
  · exact nmX10
  · exact nmX11
  · exact nmX12
theorem cl_in {ci : Nat} (h : ci < 13) : vwCl[ci]? = some (ownS ci, TXs ci, NXs ci) := by
  have : ci = 0 ∨ ci = 1 ∨ ci = 2 ∨ ci = 3 ∨ ci = 4 ∨ ci = 5 ∨ ci = 6 ∨ ci = 7 ∨ ci = 8 ∨ ci = 9 ∨ ci = 10 ∨ ci = 11 ∨ ci = 12 := by omega
  rcases this with rfl | rfl | rfl | rfl | rfl | rfl | rfl | rfl | rfl | rfl | rfl | rfl | rfl <;> rfl
theorem dfs_in {ci : Nat} (h : ci < 13) : ∀ j, j < NXs ci → defaultValue (tyXs ci j) = vp_V (dfs ci) j := by
  have key : ∀ c : Nat, c < 13 → ∀ j : Nat, j < NXs c → defaultValue (tyXs c j) = vp_V (dfs c) j := by decide +kernel
  exact key ci h
theorem own_of {ci : Nat} (h : ci < 13) : (TXs ci 0).1 = (TXs ci 0).1 := rfl
theorem decl_in {ci : Nat} (h : ci < 13) : ∀ k, k < NXs ci → (TXs ci k).1 = ownS ci := by
  have key : ∀ c : Nat, c < 13 → ∀ j : Nat, j < NXs c → (TXs c j).1 = ownS c := by decide +kernel
  exact key ci h
theorem nat_in : Cond.native arraycopyName ∈ Gl := Gat_in (p := 828) (by decide +kernel)
theorem stc_in : Cond.static arraycopyName ∈ Gl := Gat_in (p := 827) (by decide +kernel)
theorem sys_in : Cond.initialized "java/lang/System" ∈ Gl := Gat_in (p := 156) (by decide +kernel)
theorem obj_in : Cond.instanceMethod objectInit ∈ Gl := Gat_in (p := 164) (by decide +kernel)
theorem obc_in : Cond.code objectInit ⟨#[0xb1]⟩ 1 none ∈ Gl := Gat_in (p := 165) (by decide +kernel)

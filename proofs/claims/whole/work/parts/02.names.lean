/-! names: cells, classes, methods; printed by wip/whole/gen/names.py -/
abbrev fb_Sh : Type := Nat × Nat × List (Option Nat)
def fb_shp : List fb_Sh := [(0, 0, [some 1, some 2, some 3, some 4, none]),
  (0, 1, [some 6, some 13, some 14, some 15, some 16, some 17, some 18, some 19, some 20, none, none]),
  (0, 2, [some 1, some 21, some 22, some 23, some 24]),
  (0, 3, [some 1, some 2, some 31, some 32, some 33, some 34, some 35, some 36, none, none, none, none]),
  (0, 4, [some 3, some 37, some 38, some 39, none, none, none, none, none, none, none, none, none]),
  (0, 5, [none, none, some 40, some 41, some 42, some 43, some 44, some 45, some 46, none, some 47, some 48, some 49, none, none, none, some 50, some 51, some 52, some 53, some 54, none, none, none, none, none, none, some 55, some 56, some 57]),
  (3, 6, [some 7]),
  (1, 6, []),
  (1, 6, []),
  (1, 6, []),
  (1, 6, []),
  (1, 6, []),
  (1, 6, []),
  (1, 6, []),
  (1, 6, []),
  (1, 6, []),
  (1, 60, []),
  (1, 60, []),
  (1, 60, []),
  (1, 60, []),
  (1, 60, []),
  (2, 36, []),
  (2, 36, []),
  (1, 6, []),
  (3, 6, [some 25]),
  (1, 6, []),
  (1, 6, []),
  (1, 6, []),
  (1, 6, []),
  (1, 6, []),
  (1, 6, []),
  (1, 500, []),
  (1, 500, []),
  (1, 60, []),
  (1, 60, []),
  (2, 60, []),
  (2, 60, []),
  (1, 128, []),
  (1, 100, []),
  (1, 6, []),
  (1, 6, []),
  (1, 6, []),
  (1, 36, []),
  (1, 144, []),
  (1, 144, []),
  (1, 144, []),
  (1, 144, []),
  (1, 6, []),
  (2, 36, []),
  (1, 1700, []),
  (1, 144, []),
  (2, 144, []),
  (2, 144, []),
  (1, 144, []),
  (1, 144, []),
  (1, 8, []),
  (1, 128, []),
  (1, 100, [])]
abbrev fb_N : Nat := 58
def fb_T0 : u_T := fun k => match k with
  | 0 => ("FrameBackEnd", "program", "LFrameBackEnd$Program;", true)
  | 1 => ("FrameBackEnd", "frames", "LFrameBackEnd$Frames;", true)
  | 2 => ("FrameBackEnd", "assembler", "LFrameBackEnd$Assembler;", true)
  | 3 => ("FrameBackEnd", "processor", "LFrameBackEnd$Processor;", true)
  | _ => ("FrameBackEnd", "hasCode", "Z", false)
def fb_T1 : u_T := fun k => match k with
  | 0 => ("FrameBackEnd$Program", "sizes", "[[I", true)
  | 1 => ("FrameBackEnd$Program", "variableCounts", "[I", true)
  | 2 => ("FrameBackEnd$Program", "firsts", "[I", true)
  | 3 => ("FrameBackEnd$Program", "counts", "[I", true)
  | 4 => ("FrameBackEnd$Program", "owners", "[I", true)
  | 5 => ("FrameBackEnd$Program", "ops", "[I", true)
  | 6 => ("FrameBackEnd$Program", "as", "[I", true)
  | 7 => ("FrameBackEnd$Program", "bs", "[I", true)
  | 8 => ("FrameBackEnd$Program", "cs", "[I", true)
  | 9 => ("FrameBackEnd$Program", "functionCount", "I", false)
  | _ => ("FrameBackEnd$Program", "total", "I", false)
def fb_T2 : u_T := fun k => match k with
  | 0 => ("FrameBackEnd$Frames", "program", "LFrameBackEnd$Program;", true)
  | 1 => ("FrameBackEnd$Frames", "calls", "[Z", true)
  | 2 => ("FrameBackEnd$Frames", "reaches", "[Z", true)
  | 3 => ("FrameBackEnd$Frames", "bases", "[I", true)
  | _ => ("FrameBackEnd$Frames", "places", "[[I", true)
def fb_T3 : u_T := fun k => match k with
  | 0 => ("FrameBackEnd$Assembler", "program", "LFrameBackEnd$Program;", true)
  | 1 => ("FrameBackEnd$Assembler", "frames", "LFrameBackEnd$Frames;", true)
  | 2 => ("FrameBackEnd$Assembler", "bytes", "[I", true)
  | 3 => ("FrameBackEnd$Assembler", "labels", "[I", true)
  | 4 => ("FrameBackEnd$Assembler", "addresses", "[I", true)
  | 5 => ("FrameBackEnd$Assembler", "branchAddresses", "[I", true)
  | 6 => ("FrameBackEnd$Assembler", "isTarget", "[Z", true)
  | 7 => ("FrameBackEnd$Assembler", "isLong", "[Z", true)
  | 8 => ("FrameBackEnd$Assembler", "size", "I", false)
  | 9 => ("FrameBackEnd$Assembler", "longCount", "I", false)
  | 10 => ("FrameBackEnd$Assembler", "held", "I", false)
  | _ => ("FrameBackEnd$Assembler", "current", "I", false)
def fb_T4 : u_T := fun k => match k with
  | 0 => ("FrameBackEnd$Processor", "assembler", "LFrameBackEnd$Assembler;", true)
  | 1 => ("FrameBackEnd$Processor", "data", "[I", true)
  | 2 => ("FrameBackEnd$Processor", "kept", "[I", true)
  | 3 => ("FrameBackEnd$Processor", "returns", "[I", true)
  | 4 => ("FrameBackEnd$Processor", "returnCount", "I", false)
  | 5 => ("FrameBackEnd$Processor", "status", "I", false)
  | 6 => ("FrameBackEnd$Processor", "stepCount", "I", false)
  | 7 => ("FrameBackEnd$Processor", "outCount", "I", false)
  | 8 => ("FrameBackEnd$Processor", "at", "I", false)
  | 9 => ("FrameBackEnd$Processor", "a", "I", false)
  | 10 => ("FrameBackEnd$Processor", "x", "I", false)
  | 11 => ("FrameBackEnd$Processor", "carry", "I", false)
  | _ => ("FrameBackEnd$Processor", "zero", "Z", false)
def fb_T5 : u_T := fun k => match k with
  | 0 => ("FrameBackEndModel", "functions", "I", false)
  | 1 => ("FrameBackEndModel", "instructions", "I", false)
  | 2 => ("FrameBackEndModel", "variables", "[I", true)
  | 3 => ("FrameBackEndModel", "lines", "[I", true)
  | 4 => ("FrameBackEndModel", "sizes", "[I", true)
  | 5 => ("FrameBackEndModel", "what", "[I", true)
  | 6 => ("FrameBackEndModel", "one", "[I", true)
  | 7 => ("FrameBackEndModel", "two", "[I", true)
  | 8 => ("FrameBackEndModel", "three", "[I", true)
  | 9 => ("FrameBackEndModel", "compiled", "Z", false)
  | 10 => ("FrameBackEndModel", "bases", "[I", true)
  | 11 => ("FrameBackEndModel", "calls", "[Z", true)
  | 12 => ("FrameBackEndModel", "bytes", "[I", true)
  | 13 => ("FrameBackEndModel", "length", "I", false)
  | 14 => ("FrameBackEndModel", "longOnes", "I", false)
  | 15 => ("FrameBackEndModel", "held", "I", false)
  | 16 => ("FrameBackEndModel", "starts", "[I", true)
  | 17 => ("FrameBackEndModel", "target", "[Z", true)
  | 18 => ("FrameBackEndModel", "distant", "[Z", true)
  | 19 => ("FrameBackEndModel", "costs", "[I", true)
  | 20 => ("FrameBackEndModel", "tails", "[I", true)
  | 21 => ("FrameBackEndModel", "written", "I", false)
  | 22 => ("FrameBackEndModel", "running", "Z", false)
  | 23 => ("FrameBackEndModel", "how", "I", false)
  | 24 => ("FrameBackEndModel", "done", "I", false)
  | 25 => ("FrameBackEndModel", "active", "I", false)
  | 26 => ("FrameBackEndModel", "sent", "I", false)
  | 27 => ("FrameBackEndModel", "at", "[I", true)
  | 28 => ("FrameBackEndModel", "data", "[I", true)
  | _ => ("FrameBackEndModel", "outputs", "[I", true)
abbrev fb_cl : List vw_C := [("FrameBackEnd", fb_T0, 5), ("FrameBackEnd$Program", fb_T1, 11), ("FrameBackEnd$Frames", fb_T2, 5), ("FrameBackEnd$Assembler", fb_T3, 12), ("FrameBackEnd$Processor", fb_T4, 13), ("FrameBackEndModel", fb_T5, 30)]
def fb_isN : Cond → Bool
  | .fieldLinkNest .. => true
  | .methodLinkNest .. => true
  | _ => false
def fb_NW : List Cond := tables_1.filter fb_isN
def fb_WA : List Cond := lw_tbl.filter goodWord
theorem fb_tb {w : Cond} (i : Nat) (h : tables_1[i]? = some w) (hg : goodWord w = true) : w ∈ fb_WA := List.mem_filter.mpr ⟨List.mem_append_right _ (List.mem_of_getElem? h), hg⟩
theorem fb_tn {w : Cond} (i : Nat) (h : tables_1[i]? = some w) (hg : fb_isN w = true) : w ∈ fb_NW := List.mem_filter.mpr ⟨List.mem_of_getElem? h, hg⟩
theorem fb_r1 {w : Cond} (h : w ∈ tables_1_1) : w ∈ tables_1 := List.mem_append_left _ h
theorem fb_r2 {w : Cond} (h : w ∈ tables_1_2) : w ∈ tables_1 := List.mem_append_right _ (List.mem_append_left _ h)
theorem fb_r3 {w : Cond} (h : w ∈ tables_1_3) : w ∈ tables_1 := List.mem_append_right _ (List.mem_append_right _ (List.mem_append_left _ h))
theorem fb_r4 {w : Cond} (h : w ∈ tables_1_4) : w ∈ tables_1 := List.mem_append_right _ (List.mem_append_right _ (List.mem_append_right _ h))
theorem fb_inb {w : Cond} (h : w ∈ tables_1) (hg : goodWord w = true) : w ∈ fb_WA := List.mem_filter.mpr ⟨List.mem_append_right _ h, hg⟩
theorem fb_inn {w : Cond} (h : w ∈ tables_1) (hg : fb_isN w = true) : w ∈ fb_NW := List.mem_filter.mpr ⟨h, hg⟩
theorem fb_tb1 {w : Cond} (i : Nat) (h : tables_1_1[i]? = some w) (hg : goodWord w = true) : w ∈ fb_WA := fb_inb (fb_r1 (List.mem_of_getElem? h)) hg
theorem fb_tb2 {w : Cond} (i : Nat) (h : tables_1_2[i]? = some w) (hg : goodWord w = true) : w ∈ fb_WA := fb_inb (fb_r2 (List.mem_of_getElem? h)) hg
theorem fb_tb3 {w : Cond} (i : Nat) (h : tables_1_3[i]? = some w) (hg : goodWord w = true) : w ∈ fb_WA := fb_inb (fb_r3 (List.mem_of_getElem? h)) hg
theorem fb_tb4 {w : Cond} (i : Nat) (h : tables_1_4[i]? = some w) (hg : goodWord w = true) : w ∈ fb_WA := fb_inb (fb_r4 (List.mem_of_getElem? h)) hg
theorem fb_tn1 {w : Cond} (i : Nat) (h : tables_1_1[i]? = some w) (hg : fb_isN w = true) : w ∈ fb_NW := fb_inn (fb_r1 (List.mem_of_getElem? h)) hg
theorem fb_tn2 {w : Cond} (i : Nat) (h : tables_1_2[i]? = some w) (hg : fb_isN w = true) : w ∈ fb_NW := fb_inn (fb_r2 (List.mem_of_getElem? h)) hg
theorem fb_tn3 {w : Cond} (i : Nat) (h : tables_1_3[i]? = some w) (hg : fb_isN w = true) : w ∈ fb_NW := fb_inn (fb_r3 (List.mem_of_getElem? h)) hg
theorem fb_tn4 {w : Cond} (i : Nat) (h : tables_1_4[i]? = some w) (hg : fb_isN w = true) : w ∈ fb_NW := fb_inn (fb_r4 (List.mem_of_getElem? h)) hg
theorem fb_ts {y : MethodName} (i : Nat) {n : Nat} (h : lw_privs[i]? = some (y, n)) : Cond.selects y.cls y y ∈ fb_WA := List.mem_filter.mpr ⟨List.mem_append_left _ (List.mem_map.mpr ⟨(y, n), List.mem_of_getElem? h, rfl⟩), rfl⟩
theorem fb_w0 : ∀ w ∈ u_ws "FrameBackEnd" fb_T0 5, w ∈ fb_WA := by
  have e : u_ws "FrameBackEnd" fb_T0 5 = [208, 210, 212, 214, 216].filterMap (fun i : Nat => tables_1[i]?) := by decide +kernel
  have g : (u_ws "FrameBackEnd" fb_T0 5).all goodWord = true := by decide +kernel
  intro w hw
  have h1 := List.all_eq_true.mp g w hw
  rw [e] at hw
  obtain ⟨i, -, hi⟩ := List.mem_filterMap.mp hw
  exact fb_tb i hi h1
theorem fb_w1 : ∀ w ∈ u_ws "FrameBackEnd$Program" fb_T1 11, w ∈ fb_WA := by
  have e : u_ws "FrameBackEnd$Program" fb_T1 11 = [51, 53, 55, 57, 59, 61, 63, 65, 67, 69, 71].filterMap (fun i : Nat => tables_1[i]?) := by decide +kernel
  have g : (u_ws "FrameBackEnd$Program" fb_T1 11).all goodWord = true := by decide +kernel
  intro w hw
  have h1 := List.all_eq_true.mp g w hw
  rw [e] at hw
  obtain ⟨i, -, hi⟩ := List.mem_filterMap.mp hw
  exact fb_tb i hi h1
theorem fb_w2 : ∀ w ∈ u_ws "FrameBackEnd$Frames" fb_T2 5, w ∈ fb_WA := by
  have e : u_ws "FrameBackEnd$Frames" fb_T2 5 = [90, 92, 94, 96, 98].filterMap (fun i : Nat => tables_1[i]?) := by decide +kernel
  have g : (u_ws "FrameBackEnd$Frames" fb_T2 5).all goodWord = true := by decide +kernel
  intro w hw
  have h1 := List.all_eq_true.mp g w hw
  rw [e] at hw
  obtain ⟨i, -, hi⟩ := List.mem_filterMap.mp hw
  exact fb_tb i hi h1
theorem fb_w3 : ∀ w ∈ u_ws "FrameBackEnd$Assembler" fb_T3 12, w ∈ fb_WA := by
  have e : u_ws "FrameBackEnd$Assembler" fb_T3 12 = [126, 128, 130, 132, 134, 136, 138, 140, 142, 144, 146, 148].filterMap (fun i : Nat => tables_1[i]?) := by decide +kernel
  have g : (u_ws "FrameBackEnd$Assembler" fb_T3 12).all goodWord = true := by decide +kernel
  intro w hw
  have h1 := List.all_eq_true.mp g w hw
  rw [e] at hw
  obtain ⟨i, -, hi⟩ := List.mem_filterMap.mp hw
  exact fb_tb i hi h1
theorem fb_w4 : ∀ w ∈ u_ws "FrameBackEnd$Processor" fb_T4 13, w ∈ fb_WA := by
  have e : u_ws "FrameBackEnd$Processor" fb_T4 13 = [176, 178, 180, 182, 184, 186, 188, 190, 192, 194, 196, 198, 200].filterMap (fun i : Nat => tables_1[i]?) := by decide +kernel
  have g : (u_ws "FrameBackEnd$Processor" fb_T4 13).all goodWord = true := by decide +kernel
  intro w hw
  have h1 := List.all_eq_true.mp g w hw
  rw [e] at hw
  obtain ⟨i, -, hi⟩ := List.mem_filterMap.mp hw
  exact fb_tb i hi h1
theorem fb_w5 : ∀ w ∈ u_ws "FrameBackEndModel" fb_T5 30, w ∈ fb_WA := by
  have e : u_ws "FrameBackEndModel" fb_T5 30 = [645, 647, 649, 651, 653, 655, 657, 659, 661, 663, 665, 667, 669, 671, 673, 675, 677, 679, 681, 683, 685, 687, 689, 691, 693, 695, 697, 699, 701, 703].filterMap (fun i : Nat => tables_1[i]?) := by decide +kernel
  have g : (u_ws "FrameBackEndModel" fb_T5 30).all goodWord = true := by decide +kernel
  intro w hw
  have h1 := List.all_eq_true.mp g w hw
  rw [e] at hw
  obtain ⟨i, -, hi⟩ := List.mem_filterMap.mp hw
  exact fb_tb i hi h1
theorem fb_cl_ok : ∀ q ∈ fb_cl, ∀ w ∈ u_ws q.1 q.2.1 q.2.2, w ∈ fb_WA := by
  intro q hq
  simp only [fb_cl, List.mem_cons, List.not_mem_nil, or_false] at hq
  rcases hq with rfl | rfl | rfl | rfl | rfl | rfl
  · exact fb_w0
  · exact fb_w1
  · exact fb_w2
  · exact fb_w3
  · exact fb_w4
  · exact fb_w5
theorem fb_ty0 : (∀ k, k < 5 → (parseFieldDescriptor (fb_T0 k).2.2.1).isSome = true) ∧ ∀ a, a < 5 → ∀ b, b < 5 → a ≠ b → (fb_T0 a).2.1 ≠ (fb_T0 b).2.1 := by decide +kernel
theorem fb_ty1 : (∀ k, k < 11 → (parseFieldDescriptor (fb_T1 k).2.2.1).isSome = true) ∧ ∀ a, a < 11 → ∀ b, b < 11 → a ≠ b → (fb_T1 a).2.1 ≠ (fb_T1 b).2.1 := by decide +kernel
theorem fb_ty2 : (∀ k, k < 5 → (parseFieldDescriptor (fb_T2 k).2.2.1).isSome = true) ∧ ∀ a, a < 5 → ∀ b, b < 5 → a ≠ b → (fb_T2 a).2.1 ≠ (fb_T2 b).2.1 := by decide +kernel
theorem fb_ty3 : (∀ k, k < 12 → (parseFieldDescriptor (fb_T3 k).2.2.1).isSome = true) ∧ ∀ a, a < 12 → ∀ b, b < 12 → a ≠ b → (fb_T3 a).2.1 ≠ (fb_T3 b).2.1 := by decide +kernel
theorem fb_ty4 : (∀ k, k < 13 → (parseFieldDescriptor (fb_T4 k).2.2.1).isSome = true) ∧ ∀ a, a < 13 → ∀ b, b < 13 → a ≠ b → (fb_T4 a).2.1 ≠ (fb_T4 b).2.1 := by decide +kernel
theorem fb_ty5 : (∀ k, k < 30 → (parseFieldDescriptor (fb_T5 k).2.2.1).isSome = true) ∧ ∀ a, a < 30 → ∀ b, b < 30 → a ≠ b → (fb_T5 a).2.1 ≠ (fb_T5 b).2.1 := by decide +kernel
theorem fb_cl_ty {ci : Nat} {C : String} {T : u_T} {N : Nat} (hc : fb_cl[ci]? = some (C, T, N)) : ∃ t0 : Nat → FieldType, (∀ k, k < N → parseFieldDescriptor (T k).2.2.1 = some (t0 k)) ∧ ∀ a, a < N → ∀ b, b < N → a ≠ b → (T a).2.1 ≠ (T b).2.1 := by
  have key : ∀ q ∈ fb_cl, (∀ k, k < q.2.2 → (parseFieldDescriptor (q.2.1 k).2.2.1).isSome = true) ∧ ∀ a, a < q.2.2 → ∀ b, b < q.2.2 → a ≠ b → (q.2.1 a).2.1 ≠ (q.2.1 b).2.1 := by
    intro q hq
    simp only [fb_cl, List.mem_cons, List.not_mem_nil, or_false] at hq
    rcases hq with rfl | rfl | rfl | rfl | rfl | rfl
    · exact fb_ty0
    · exact fb_ty1
    · exact fb_ty2
    · exact fb_ty3
    · exact fb_ty4
    · exact fb_ty5
  obtain ⟨h1, h2⟩ := key _ (List.mem_of_getElem? hc)
  exact ⟨fun k => (parseFieldDescriptor (T k).2.2.1).getD .int, fun k hk => by
    have := h1 k hk
    obtain ⟨t, ht⟩ := Option.isSome_iff_exists.mp this
    have ht2 : parseFieldDescriptor (T k).2.2.1 = some t := ht
    show parseFieldDescriptor (T k).2.2.1 = some ((parseFieldDescriptor (T k).2.2.1).getD .int)
    rw [ht2]; rfl, h2⟩
def fb_sorts (j : Nat) : Int := ([1, 4, 0, 1, 1, 0, 1, 1, 1, 1, 1, 1, 1, 1, 1, 1, 1, 1, 1, 1, 1, 1, 0, 0, 1, 3, 2, 3, 2, 1, 0, 0, 0, 1, 0, 0, 1, 1, 0, 0, 1, 1, 1, 0, 0, 1, 0, 0] : List Int).getD j 0
-- a method: name, bytes, locals, return type, height of its calls
abbrev fb_M : Type := MethodName × ByteArray × Nat × Option FieldType × Nat
def fb_cd (z : fb_M) : Prop := Cond.code z.1 z.2.1 z.2.2.1 z.2.2.2.1 ∈ fb_WA
abbrev fb_Fb_function : fb_M := (⟨"FrameBackEnd", "function", "()I"⟩, prog_1_method_2_code, 1, (some .int), 3)
abbrev fb_Fb_variable : fb_M := (⟨"FrameBackEnd", "variable", "(I)I"⟩, prog_1_method_3_code, 2, (some .int), 3)
abbrev fb_Fb_op : fb_M := (⟨"FrameBackEnd", "op", "(IIII)I"⟩, prog_1_method_4_code, 5, (some .int), 3)
abbrev fb_Fb_compile : fb_M := (⟨"FrameBackEnd", "compile", "()I"⟩, prog_1_method_5_code, 2, (some .int), 6)
abbrev fb_Fb_length : fb_M := (⟨"FrameBackEnd", "length", "()I"⟩, prog_1_method_6_code, 1, (some .int), 0)
abbrev fb_Fb_code : fb_M := (⟨"FrameBackEnd", "code", "(I)I"⟩, prog_1_method_7_code, 2, (some .int), 0)
abbrev fb_Fb_longs : fb_M := (⟨"FrameBackEnd", "longs", "()I"⟩, prog_1_method_8_code, 1, (some .int), 0)
abbrev fb_Fb_base : fb_M := (⟨"FrameBackEnd", "base", "(I)I"⟩, prog_1_method_9_code, 2, (some .int), 1)
abbrev fb_Fb_address : fb_M := (⟨"FrameBackEnd", "address", "(II)I"⟩, prog_1_method_10_code, 3, (some .int), 2)
abbrev fb_Fb_start : fb_M := (⟨"FrameBackEnd", "start", "()Z"⟩, prog_1_method_11_code, 1, (some .boolean), 2)
abbrev fb_Fb_run : fb_M := (⟨"FrameBackEnd", "run", "(I)I"⟩, prog_1_method_12_code, 2, (some .int), 6)
abbrev fb_Fb_state : fb_M := (⟨"FrameBackEnd", "state", "()I"⟩, prog_1_method_13_code, 1, (some .int), 0)
abbrev fb_Fb_spent : fb_M := (⟨"FrameBackEnd", "spent", "()I"⟩, prog_1_method_14_code, 1, (some .int), 0)
abbrev fb_Fb_next : fb_M := (⟨"FrameBackEnd", "next", "()I"⟩, prog_1_method_15_code, 1, (some .int), 2)
abbrev fb_Fb_depth : fb_M := (⟨"FrameBackEnd", "depth", "()I"⟩, prog_1_method_16_code, 1, (some .int), 0)
abbrev fb_Fb_value : fb_M := (⟨"FrameBackEnd", "value", "(II)I"⟩, prog_1_method_17_code, 5, (some .int), 2)
abbrev fb_Fb_output : fb_M := (⟨"FrameBackEnd", "output", "(I)I"⟩, prog_1_method_18_code, 2, (some .int), 0)
abbrev fb_Fb_accepted : fb_M := (⟨"FrameBackEnd", "accepted", "(I)I"⟩, prog_1_method_19_code, 2, (some .int), 2)
abbrev fb_Fb_dropCode : fb_M := (⟨"FrameBackEnd", "dropCode", "()V"⟩, prog_1_method_20_code, 1, none, 1)
abbrev fb_Fb_faultOfProgram : fb_M := (⟨"FrameBackEnd", "faultOfProgram", "()I"⟩, prog_1_method_21_code, 1, (some .int), 4)
abbrev fb_Mo_change : fb_M := (⟨"FrameBackEndModel", "change", "()V"⟩, prog_7_method_2_code, 1, none, 0)
abbrev fb_Mo_function : fb_M := (⟨"FrameBackEndModel", "function", "()I"⟩, prog_7_method_3_code, 1, (some .int), 1)
abbrev fb_Mo_variable : fb_M := (⟨"FrameBackEndModel", "variable", "(I)I"⟩, prog_7_method_4_code, 3, (some .int), 1)
abbrev fb_Mo_is : fb_M := (⟨"FrameBackEndModel", "is", "(III)Z"⟩, prog_7_method_5_code, 5, (some .boolean), 0)
abbrev fb_Mo_scalar : fb_M := (⟨"FrameBackEndModel", "scalar", "(I)Z"⟩, prog_7_method_6_code, 2, (some .boolean), 1)
abbrev fb_Mo_fine : fb_M := (⟨"FrameBackEndModel", "fine", "(IIII)Z"⟩, prog_7_method_7_code, 5, (some .boolean), 2)
abbrev fb_Mo_op : fb_M := (⟨"FrameBackEndModel", "op", "(IIII)I"⟩, prog_7_method_8_code, 7, (some .int), 3)
abbrev fb_Mo_branches : fb_M := (⟨"FrameBackEndModel", "branches", "(I)Z"⟩, prog_7_method_9_code, 1, (some .boolean), 0)
abbrev fb_Mo_goal : fb_M := (⟨"FrameBackEndModel", "goal", "(I)I"⟩, prog_7_method_10_code, 2, (some .int), 0)
abbrev fb_Mo_ended : fb_M := (⟨"FrameBackEndModel", "ended", "()Z"⟩, prog_7_method_11_code, 3, (some .boolean), 0)
abbrev fb_Mo_aimed : fb_M := (⟨"FrameBackEndModel", "aimed", "()Z"⟩, prog_7_method_12_code, 3, (some .boolean), 1)
abbrev fb_Mo_called : fb_M := (⟨"FrameBackEndModel", "called", "()Z"⟩, prog_7_method_13_code, 3, (some .boolean), 0)
abbrev fb_Mo_rings : fb_M := (⟨"FrameBackEndModel", "rings", "()Z"⟩, prog_7_method_14_code, 8, (some .boolean), 0)
abbrev fb_Mo_end : fb_M := (⟨"FrameBackEndModel", "end", "(I)I"⟩, prog_7_method_15_code, 4, (some .int), 0)
abbrev fb_Mo_framed : fb_M := (⟨"FrameBackEndModel", "framed", "()Z"⟩, prog_7_method_16_code, 5, (some .boolean), 1)
abbrev fb_Mo_place : fb_M := (⟨"FrameBackEndModel", "place", "(II)I"⟩, prog_7_method_17_code, 5, (some .int), 0)
abbrev fb_Mo_part : fb_M := (⟨"FrameBackEndModel", "part", "(III)I"⟩, prog_7_method_18_code, 4, (some .int), 1)
abbrev fb_Mo_put : fb_M := (⟨"FrameBackEndModel", "put", "(I)V"⟩, prog_7_method_19_code, 2, none, 0)
abbrev fb_Mo_plain : fb_M := (⟨"FrameBackEndModel", "plain", "(I)V"⟩, prog_7_method_20_code, 2, none, 1)
abbrev fb_Mo_with : fb_M := (⟨"FrameBackEndModel", "with", "(II)V"⟩, prog_7_method_21_code, 3, none, 1)
abbrev fb_Mo_indexed : fb_M := (⟨"FrameBackEndModel", "indexed", "(II)V"⟩, prog_7_method_22_code, 3, none, 1)
abbrev fb_Mo_to : fb_M := (⟨"FrameBackEndModel", "to", "(II)V"⟩, prog_7_method_23_code, 3, none, 1)
abbrev fb_Mo_load : fb_M := (⟨"FrameBackEndModel", "load", "(I)V"⟩, prog_7_method_24_code, 2, none, 2)
abbrev fb_Mo_move : fb_M := (⟨"FrameBackEndModel", "move", "(II)V"⟩, prog_7_method_25_code, 3, none, 3)
abbrev fb_Mo_branch : fb_M := (⟨"FrameBackEndModel", "branch", "(II)V"⟩, prog_7_method_26_code, 5, none, 2)
abbrev fb_Mo_guard : fb_M := (⟨"FrameBackEndModel", "guard", "(II)V"⟩, prog_7_method_27_code, 3, none, 2)
abbrev fb_Mo_arithmetic : fb_M := (⟨"FrameBackEndModel", "arithmetic", "(II)V"⟩, prog_7_method_28_code, 9, none, 3)
abbrev fb_Mo_call : fb_M := (⟨"FrameBackEndModel", "call", "(II)V"⟩, prog_7_method_29_code, 8, none, 4)
abbrev fb_Mo_tests : fb_M := (⟨"FrameBackEndModel", "tests", "(II)V"⟩, prog_7_method_30_code, 9, none, 3)
abbrev fb_Mo_arrays : fb_M := (⟨"FrameBackEndModel", "arrays", "(II)V"⟩, prog_7_method_31_code, 8, none, 4)
abbrev fb_Mo_others : fb_M := (⟨"FrameBackEndModel", "others", "(II)V"⟩, prog_7_method_32_code, 8, none, 4)
abbrev fb_Mo_layOut : fb_M := (⟨"FrameBackEndModel", "layOut", "()V"⟩, prog_7_method_33_code, 4, none, 5)
abbrev fb_Mo_branchAt : fb_M := (⟨"FrameBackEndModel", "branchAt", "(II)I"⟩, prog_7_method_34_code, 4, (some .int), 0)
abbrev fb_Mo_stretched : fb_M := (⟨"FrameBackEndModel", "stretched", "()Z"⟩, prog_7_method_35_code, 5, (some .boolean), 1)
abbrev fb_Mo_compile : fb_M := (⟨"FrameBackEndModel", "compile", "()I"⟩, prog_7_method_36_code, 2, (some .int), 6)
abbrev fb_Mo_length : fb_M := (⟨"FrameBackEndModel", "length", "()I"⟩, prog_7_method_37_code, 1, (some .int), 0)
abbrev fb_Mo_code : fb_M := (⟨"FrameBackEndModel", "code", "(I)I"⟩, prog_7_method_38_code, 2, (some .int), 0)
abbrev fb_Mo_longs : fb_M := (⟨"FrameBackEndModel", "longs", "()I"⟩, prog_7_method_39_code, 1, (some .int), 0)
abbrev fb_Mo_base : fb_M := (⟨"FrameBackEndModel", "base", "(I)I"⟩, prog_7_method_40_code, 2, (some .int), 0)
abbrev fb_Mo_address : fb_M := (⟨"FrameBackEndModel", "address", "(II)I"⟩, prog_7_method_41_code, 3, (some .int), 0)
abbrev fb_Mo_start : fb_M := (⟨"FrameBackEndModel", "start", "()Z"⟩, prog_7_method_42_code, 2, (some .boolean), 0)
abbrev fb_Mo_read : fb_M := (⟨"FrameBackEndModel", "read", "(II)I"⟩, prog_7_method_43_code, 4, (some .int), 1)
abbrev fb_Mo_write : fb_M := (⟨"FrameBackEndModel", "write", "(III)V"⟩, prog_7_method_44_code, 5, none, 1)
abbrev fb_Mo_send : fb_M := (⟨"FrameBackEndModel", "send", "(I)V"⟩, prog_7_method_45_code, 2, none, 0)
abbrev fb_Mo_compute : fb_M := (⟨"FrameBackEndModel", "compute", "(III)I"⟩, prog_7_method_46_code, 4, (some .int), 0)
abbrev fb_Mo_decide : fb_M := (⟨"FrameBackEndModel", "decide", "(IZ)V"⟩, prog_7_method_47_code, 3, none, 1)
abbrev fb_Mo_touch : fb_M := (⟨"FrameBackEndModel", "touch", "(II)V"⟩, prog_7_method_48_code, 7, none, 2)
abbrev fb_Mo_enter : fb_M := (⟨"FrameBackEndModel", "enter", "(II)V"⟩, prog_7_method_49_code, 5, none, 2)
abbrev fb_Mo_leave : fb_M := (⟨"FrameBackEndModel", "leave", "(II)V"⟩, prog_7_method_50_code, 5, none, 2)
abbrev fb_Mo_step : fb_M := (⟨"FrameBackEndModel", "step", "()V"⟩, prog_7_method_51_code, 5, none, 3)
abbrev fb_Mo_straight : fb_M := (⟨"FrameBackEndModel", "straight", "(II)V"⟩, prog_7_method_52_code, 7, none, 2)
abbrev fb_Mo_run : fb_M := (⟨"FrameBackEndModel", "run", "(I)I"⟩, prog_7_method_53_code, 3, (some .int), 4)
abbrev fb_Mo_state : fb_M := (⟨"FrameBackEndModel", "state", "()I"⟩, prog_7_method_54_code, 1, (some .int), 0)
abbrev fb_Mo_spent : fb_M := (⟨"FrameBackEndModel", "spent", "()I"⟩, prog_7_method_55_code, 1, (some .int), 0)
abbrev fb_Mo_next : fb_M := (⟨"FrameBackEndModel", "next", "()I"⟩, prog_7_method_56_code, 1, (some .int), 0)
abbrev fb_Mo_depth : fb_M := (⟨"FrameBackEndModel", "depth", "()I"⟩, prog_7_method_57_code, 1, (some .int), 0)
abbrev fb_Mo_value : fb_M := (⟨"FrameBackEndModel", "value", "(II)I"⟩, prog_7_method_58_code, 4, (some .int), 1)
abbrev fb_Mo_output : fb_M := (⟨"FrameBackEndModel", "output", "(I)I"⟩, prog_7_method_59_code, 2, (some .int), 0)
abbrev fb_As_assemble : fb_M := (⟨"FrameBackEnd$Assembler", "assemble", "()V"⟩, prog_2_method_2_code, 3, none, 5)
abbrev fb_As_markTargets : fb_M := (⟨"FrameBackEnd$Assembler", "markTargets", "()V"⟩, prog_2_method_3_code, 2, none, 2)
abbrev fb_As_lengthenBranches : fb_M := (⟨"FrameBackEnd$Assembler", "lengthenBranches", "()Z"⟩, prog_2_method_4_code, 4, (some .boolean), 3)
abbrev fb_As_reachesGoal : fb_M := (⟨"FrameBackEnd$Assembler", "reachesGoal", "(I)Z"⟩, prog_2_method_5_code, 4, (some .boolean), 2)
abbrev fb_As_markLabels : fb_M := (⟨"FrameBackEnd$Assembler", "markLabels", "()V"⟩, prog_2_method_6_code, 3, none, 1)
abbrev fb_As_emitProgram : fb_M := (⟨"FrameBackEnd$Assembler", "emitProgram", "()V"⟩, prog_2_method_7_code, 2, none, 4)
abbrev fb_As_emitInstruction : fb_M := (⟨"FrameBackEnd$Assembler", "emitInstruction", "(IIII)V"⟩, prog_2_method_8_code, 5, none, 3)
abbrev fb_As_emitSet : fb_M := (⟨"FrameBackEnd$Assembler", "emitSet", "(II)V"⟩, prog_2_method_9_code, 4, none, 2)
abbrev fb_As_emitMove : fb_M := (⟨"FrameBackEnd$Assembler", "emitMove", "(II)V"⟩, prog_2_method_10_code, 4, none, 2)
abbrev fb_As_emitCombine : fb_M := (⟨"FrameBackEnd$Assembler", "emitCombine", "(IIII)V"⟩, prog_2_method_11_code, 6, none, 2)
abbrev fb_As_emitDouble : fb_M := (⟨"FrameBackEnd$Assembler", "emitDouble", "(I)V"⟩, prog_2_method_12_code, 2, none, 2)
abbrev fb_As_emitLoad : fb_M := (⟨"FrameBackEnd$Assembler", "emitLoad", "(II)V"⟩, prog_2_method_13_code, 3, none, 2)
abbrev fb_As_emitStore : fb_M := (⟨"FrameBackEnd$Assembler", "emitStore", "(II)V"⟩, prog_2_method_14_code, 3, none, 2)
abbrev fb_As_emitIndex : fb_M := (⟨"FrameBackEnd$Assembler", "emitIndex", "(II)V"⟩, prog_2_method_15_code, 3, none, 2)
abbrev fb_As_emitZero : fb_M := (⟨"FrameBackEnd$Assembler", "emitZero", "(I)V"⟩, prog_2_method_16_code, 2, none, 2)
abbrev fb_As_emitBelow : fb_M := (⟨"FrameBackEnd$Assembler", "emitBelow", "(II)V"⟩, prog_2_method_17_code, 3, none, 2)
abbrev fb_As_emitCall : fb_M := (⟨"FrameBackEnd$Assembler", "emitCall", "(III)V"⟩, prog_2_method_18_code, 6, none, 2)
abbrev fb_As_emitReturn : fb_M := (⟨"FrameBackEnd$Assembler", "emitReturn", "(I)V"⟩, prog_2_method_19_code, 3, none, 2)
abbrev fb_As_emitOut : fb_M := (⟨"FrameBackEnd$Assembler", "emitOut", "(I)V"⟩, prog_2_method_20_code, 3, none, 2)
abbrev fb_As_isWide : fb_M := (⟨"FrameBackEnd$Assembler", "isWide", "(I)Z"⟩, prog_2_method_21_code, 2, (some .boolean), 1)
abbrev fb_As_part : fb_M := (⟨"FrameBackEnd$Assembler", "part", "(II)I"⟩, prog_2_method_22_code, 3, (some .int), 1)
abbrev fb_As_emit : fb_M := (⟨"FrameBackEnd$Assembler", "emit", "(II)V"⟩, prog_2_method_23_code, 4, none, 1)
abbrev fb_As_formOf : fb_M := (⟨"FrameBackEnd$Assembler", "formOf", "(I)I"⟩, prog_2_method_24_code, 1, (some .int), 0)
abbrev fb_As_heldBehind : fb_M := (⟨"FrameBackEnd$Assembler", "heldBehind", "(II)I"⟩, prog_2_method_25_code, 3, (some .int), 0)
abbrev fb_As_emitAlone : fb_M := (⟨"FrameBackEnd$Assembler", "emitAlone", "(I)V"⟩, prog_2_method_26_code, 2, none, 1)
abbrev fb_As_emitJump : fb_M := (⟨"FrameBackEnd$Assembler", "emitJump", "(II)V"⟩, prog_2_method_27_code, 3, none, 1)
abbrev fb_As_emitBranch : fb_M := (⟨"FrameBackEnd$Assembler", "emitBranch", "(II)V"⟩, prog_2_method_28_code, 4, none, 2)
abbrev fb_As_opposite : fb_M := (⟨"FrameBackEnd$Assembler", "opposite", "(I)I"⟩, prog_2_method_29_code, 1, (some .int), 0)
abbrev fb_As_put : fb_M := (⟨"FrameBackEnd$Assembler", "put", "(I)V"⟩, prog_2_method_30_code, 2, none, 0)
abbrev fb_Fr_gatherCalls : fb_M := (⟨"FrameBackEnd$Frames", "gatherCalls", "()V"⟩, prog_3_method_2_code, 2, none, 0)
abbrev fb_Fr_hasRecursion : fb_M := (⟨"FrameBackEnd$Frames", "hasRecursion", "()Z"⟩, prog_3_method_3_code, 2, (some .boolean), 1)
abbrev fb_Fr_closeCalls : fb_M := (⟨"FrameBackEnd$Frames", "closeCalls", "()V"⟩, prog_3_method_4_code, 5, none, 0)
abbrev fb_Fr_findBases : fb_M := (⟨"FrameBackEnd$Frames", "findBases", "()V"⟩, prog_3_method_5_code, 3, none, 3)
abbrev fb_Fr_pushCallees : fb_M := (⟨"FrameBackEnd$Frames", "pushCallees", "(I)V"⟩, prog_3_method_6_code, 3, none, 2)
abbrev fb_Fr_endOf : fb_M := (⟨"FrameBackEnd$Frames", "endOf", "(I)I"⟩, prog_3_method_7_code, 2, (some .int), 1)
abbrev fb_Fr_fit : fb_M := (⟨"FrameBackEnd$Frames", "fit", "()Z"⟩, prog_3_method_8_code, 2, (some .boolean), 2)
abbrev fb_Fr_placeVariables : fb_M := (⟨"FrameBackEnd$Frames", "placeVariables", "()V"⟩, prog_3_method_9_code, 4, none, 0)
abbrev fb_Po_drop : fb_M := (⟨"FrameBackEnd$Processor", "drop", "()V"⟩, prog_4_method_2_code, 1, none, 0)
abbrev fb_Po_begin : fb_M := (⟨"FrameBackEnd$Processor", "begin", "()V"⟩, prog_4_method_3_code, 1, none, 1)
abbrev fb_Po_label : fb_M := (⟨"FrameBackEnd$Processor", "label", "()I"⟩, prog_4_method_4_code, 1, (some .int), 1)
abbrev fb_Po_labelHere : fb_M := (⟨"FrameBackEnd$Processor", "labelHere", "()I"⟩, prog_4_method_5_code, 1, (some .int), 0)
abbrev fb_Po_perform : fb_M := (⟨"FrameBackEnd$Processor", "perform", "(I)I"⟩, prog_4_method_6_code, 3, (some .int), 5)
abbrev fb_Po_performOne : fb_M := (⟨"FrameBackEnd$Processor", "performOne", "()V"⟩, prog_4_method_7_code, 3, none, 4)
abbrev fb_Po_step : fb_M := (⟨"FrameBackEnd$Processor", "step", "()V"⟩, prog_4_method_8_code, 4, none, 3)
abbrev fb_Po_fetch : fb_M := (⟨"FrameBackEnd$Processor", "fetch", "()I"⟩, prog_4_method_9_code, 2, (some .int), 0)
abbrev fb_Po_fetchOperand : fb_M := (⟨"FrameBackEnd$Processor", "fetchOperand", "(I)I"⟩, prog_4_method_10_code, 3, (some .int), 1)
abbrev fb_Po_read : fb_M := (⟨"FrameBackEnd$Processor", "read", "(I)I"⟩, prog_4_method_11_code, 2, (some .int), 0)
abbrev fb_Po_write : fb_M := (⟨"FrameBackEnd$Processor", "write", "(II)V"⟩, prog_4_method_12_code, 3, none, 0)
abbrev fb_Po_doWithData : fb_M := (⟨"FrameBackEnd$Processor", "doWithData", "(II)V"⟩, prog_4_method_13_code, 5, none, 2)
abbrev fb_Po_setA : fb_M := (⟨"FrameBackEnd$Processor", "setA", "(I)V"⟩, prog_4_method_14_code, 2, none, 0)
abbrev fb_Po_add : fb_M := (⟨"FrameBackEnd$Processor", "add", "(I)V"⟩, prog_4_method_15_code, 3, none, 1)
abbrev fb_Po_shift : fb_M := (⟨"FrameBackEnd$Processor", "shift", "(II)V"⟩, prog_4_method_16_code, 3, none, 1)
abbrev fb_Po_compare : fb_M := (⟨"FrameBackEnd$Processor", "compare", "(II)V"⟩, prog_4_method_17_code, 3, none, 0)
abbrev fb_Po_doBranch : fb_M := (⟨"FrameBackEnd$Processor", "doBranch", "(I)V"⟩, prog_4_method_18_code, 3, none, 1)
abbrev fb_Po_branches : fb_M := (⟨"FrameBackEnd$Processor", "branches", "(I)Z"⟩, prog_4_method_19_code, 2, (some .boolean), 0)
abbrev fb_Po_doJump : fb_M := (⟨"FrameBackEnd$Processor", "doJump", "(I)V"⟩, prog_4_method_20_code, 4, none, 1)
abbrev fb_Po_doAlone : fb_M := (⟨"FrameBackEnd$Processor", "doAlone", "(I)V"⟩, prog_4_method_21_code, 2, none, 1)
abbrev fb_Po_doReturn : fb_M := (⟨"FrameBackEnd$Processor", "doReturn", "()V"⟩, prog_4_method_22_code, 1, none, 0)
abbrev fb_Po_putOut : fb_M := (⟨"FrameBackEnd$Processor", "putOut", "()V"⟩, prog_4_method_23_code, 1, none, 0)
abbrev fb_Pr_addFunction : fb_M := (⟨"FrameBackEnd$Program", "addFunction", "()I"⟩, prog_5_method_2_code, 1, (some .int), 0)
abbrev fb_Pr_addVariable : fb_M := (⟨"FrameBackEnd$Program", "addVariable", "(I)I"⟩, prog_5_method_3_code, 4, (some .int), 0)
abbrev fb_Pr_addInstruction : fb_M := (⟨"FrameBackEnd$Program", "addInstruction", "(IIII)I"⟩, prog_5_method_4_code, 6, (some .int), 2)
abbrev fb_Pr_suits : fb_M := (⟨"FrameBackEnd$Program", "suits", "(II)Z"⟩, prog_5_method_5_code, 4, (some .boolean), 1)
abbrev fb_Pr_isScalar : fb_M := (⟨"FrameBackEnd$Program", "isScalar", "(I)Z"⟩, prog_5_method_6_code, 1, (some .boolean), 0)
abbrev fb_Pr_hasFunction : fb_M := (⟨"FrameBackEnd$Program", "hasFunction", "(I)Z"⟩, prog_5_method_7_code, 2, (some .boolean), 0)
abbrev fb_Pr_hasInstruction : fb_M := (⟨"FrameBackEnd$Program", "hasInstruction", "(II)Z"⟩, prog_5_method_8_code, 3, (some .boolean), 1)
abbrev fb_Pr_sizeOf : fb_M := (⟨"FrameBackEnd$Program", "sizeOf", "(II)I"⟩, prog_5_method_9_code, 4, (some .int), 0)
abbrev fb_Pr_frameSizeOf : fb_M := (⟨"FrameBackEnd$Program", "frameSizeOf", "(I)I"⟩, prog_5_method_10_code, 4, (some .int), 0)
abbrev fb_Pr_hasTarget : fb_M := (⟨"FrameBackEnd$Program", "hasTarget", "(I)Z"⟩, prog_5_method_11_code, 2, (some .boolean), 0)
abbrev fb_Pr_targetOf : fb_M := (⟨"FrameBackEnd$Program", "targetOf", "(I)I"⟩, prog_5_method_12_code, 2, (some .int), 0)
abbrev fb_Pr_goalOf : fb_M := (⟨"FrameBackEnd$Program", "goalOf", "(I)I"⟩, prog_5_method_13_code, 2, (some .int), 1)
abbrev fb_Pr_isWhole : fb_M := (⟨"FrameBackEnd$Program", "isWhole", "()Z"⟩, prog_5_method_14_code, 3, (some .boolean), 0)
abbrev fb_Pr_hasAllTargets : fb_M := (⟨"FrameBackEnd$Program", "hasAllTargets", "()Z"⟩, prog_5_method_15_code, 2, (some .boolean), 2)
abbrev fb_Pr_hasAllCallees : fb_M := (⟨"FrameBackEnd$Program", "hasAllCallees", "()Z"⟩, prog_5_method_16_code, 2, (some .boolean), 1)
abbrev fb_Ja_fill : fb_M := (⟨"java/util/Arrays", "fill", "([II)V"⟩, prog_9_method_103_code, 4, none, 0)

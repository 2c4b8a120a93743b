section
-- ===== PART A: goes FIRST, ahead of the names: the tables' words, and 'selects' of the private methods out of them =====
/-- a private method of a class that the tables say can be made, by its rows of tables_1 -/
def lw_okq (q : MethodName × Nat) : Prop := (q.1.cls ≠ "java/lang/invoke/MethodHandle" ∧ q.1.cls ≠ "java/lang/invoke/VarHandle") ∧ Cond.instantiable q.1.cls q.2 ∈ tables_1 ∧ Cond.privateMethod q.1 ∈ tables_1 ∧ Cond.instanceMethod q.1 ∈ tables_1
theorem lw_p0 : lw_okq (⟨"HeapSteps", "layerAt", "(I)LHeapSteps$Layer;"⟩, 10) := ⟨⟨by decide +kernel, by decide +kernel⟩, List.mem_of_getElem? (i := 8) (by decide +kernel), List.mem_of_getElem? (i := 133) (by decide +kernel), List.mem_of_getElem? (i := 134) (by decide +kernel)⟩
theorem lw_p1 : lw_okq (⟨"HeapSteps", "bring", "(LHeapSteps$Layer;IIJ)Z"⟩, 10) := ⟨⟨by decide +kernel, by decide +kernel⟩, List.mem_of_getElem? (i := 8) (by decide +kernel), List.mem_of_getElem? (i := 138) (by decide +kernel), List.mem_of_getElem? (i := 139) (by decide +kernel)⟩
theorem lw_p2 : lw_okq (⟨"HeapSteps", "greatestWarmth", "()J"⟩, 10) := ⟨⟨by decide +kernel, by decide +kernel⟩, List.mem_of_getElem? (i := 8) (by decide +kernel), List.mem_of_getElem? (i := 193) (by decide +kernel), List.mem_of_getElem? (i := 194) (by decide +kernel)⟩
theorem lw_p3 : lw_okq (⟨"HeapSteps", "passMinute", "()V"⟩, 10) := ⟨⟨by decide +kernel, by decide +kernel⟩, List.mem_of_getElem? (i := 8) (by decide +kernel), List.mem_of_getElem? (i := 208) (by decide +kernel), List.mem_of_getElem? (i := 209) (by decide +kernel)⟩
theorem lw_p4 : lw_okq (⟨"HeapSteps", "pour", "(JI)V"⟩, 10) := ⟨⟨by decide +kernel, by decide +kernel⟩, List.mem_of_getElem? (i := 8) (by decide +kernel), List.mem_of_getElem? (i := 212) (by decide +kernel), List.mem_of_getElem? (i := 213) (by decide +kernel)⟩
theorem lw_p5 : lw_okq (⟨"HeapSteps", "breakParts", "(LHeapSteps$Layer;)V"⟩, 10) := ⟨⟨by decide +kernel, by decide +kernel⟩, List.mem_of_getElem? (i := 8) (by decide +kernel), List.mem_of_getElem? (i := 216) (by decide +kernel), List.mem_of_getElem? (i := 217) (by decide +kernel)⟩
theorem lw_p6 : lw_okq (⟨"HeapSteps", "breakPart", "(LHeapSteps$Layer;IJ)V"⟩, 10) := ⟨⟨by decide +kernel, by decide +kernel⟩, List.mem_of_getElem? (i := 8) (by decide +kernel), List.mem_of_getElem? (i := 220) (by decide +kernel), List.mem_of_getElem? (i := 221) (by decide +kernel)⟩
theorem lw_p7 : lw_okq (⟨"HeapSteps", "loseHeat", "(LHeapSteps$Layer;)V"⟩, 10) := ⟨⟨by decide +kernel, by decide +kernel⟩, List.mem_of_getElem? (i := 8) (by decide +kernel), List.mem_of_getElem? (i := 233) (by decide +kernel), List.mem_of_getElem? (i := 234) (by decide +kernel)⟩
theorem lw_p8 : lw_okq (⟨"HeapSteps", "driveOff", "(LHeapSteps$Layer;)V"⟩, 10) := ⟨⟨by decide +kernel, by decide +kernel⟩, List.mem_of_getElem? (i := 8) (by decide +kernel), List.mem_of_getElem? (i := 237) (by decide +kernel), List.mem_of_getElem? (i := 238) (by decide +kernel)⟩
theorem lw_p9 : lw_okq (⟨"HeapSteps", "shareOut", "(I)V"⟩, 10) := ⟨⟨by decide +kernel, by decide +kernel⟩, List.mem_of_getElem? (i := 8) (by decide +kernel), List.mem_of_getElem? (i := 284) (by decide +kernel), List.mem_of_getElem? (i := 285) (by decide +kernel)⟩
theorem lw_p10 : lw_okq (⟨"HeapSteps", "inAllLayers", "(I)J"⟩, 10) := ⟨⟨by decide +kernel, by decide +kernel⟩, List.mem_of_getElem? (i := 8) (by decide +kernel), List.mem_of_getElem? (i := 288) (by decide +kernel), List.mem_of_getElem? (i := 289) (by decide +kernel)⟩
theorem lw_p11 : lw_okq (⟨"HeapSteps", "putInLessThere", "(I)J"⟩, 10) := ⟨⟨by decide +kernel, by decide +kernel⟩, List.mem_of_getElem? (i := 8) (by decide +kernel), List.mem_of_getElem? (i := 300) (by decide +kernel), List.mem_of_getElem? (i := 301) (by decide +kernel)⟩
theorem lw_p12 : lw_okq (⟨"HeapStepsModel", "isLayer", "(I)Z"⟩, 24) := ⟨⟨by decide +kernel, by decide +kernel⟩, List.mem_of_getElem? (i := 312) (by decide +kernel), List.mem_of_getElem? (i := 396) (by decide +kernel), List.mem_of_getElem? (i := 397) (by decide +kernel)⟩
theorem lw_p13 : lw_okq (⟨"HeapStepsModel", "warmest", "()J"⟩, 24) := ⟨⟨by decide +kernel, by decide +kernel⟩, List.mem_of_getElem? (i := 312) (by decide +kernel), List.mem_of_getElem? (i := 452) (by decide +kernel), List.mem_of_getElem? (i := 453) (by decide +kernel)⟩
theorem lw_p14 : lw_okq (⟨"HeapStepsModel", "warmthOf", "(I)J"⟩, 24) := ⟨⟨by decide +kernel, by decide +kernel⟩, List.mem_of_getElem? (i := 312) (by decide +kernel), List.mem_of_getElem? (i := 456) (by decide +kernel), List.mem_of_getElem? (i := 457) (by decide +kernel)⟩
theorem lw_p15 : lw_okq (⟨"HeapStepsModel", "massOf", "(I)J"⟩, 24) := ⟨⟨by decide +kernel, by decide +kernel⟩, List.mem_of_getElem? (i := 312) (by decide +kernel), List.mem_of_getElem? (i := 460) (by decide +kernel), List.mem_of_getElem? (i := 461) (by decide +kernel)⟩
def lw_privs_1 : List (MethodName × Nat) := [(⟨"HeapSteps", "layerAt", "(I)LHeapSteps$Layer;"⟩, 10), (⟨"HeapSteps", "bring", "(LHeapSteps$Layer;IIJ)Z"⟩, 10), (⟨"HeapSteps", "greatestWarmth", "()J"⟩, 10), (⟨"HeapSteps", "passMinute", "()V"⟩, 10), (⟨"HeapSteps", "pour", "(JI)V"⟩, 10), (⟨"HeapSteps", "breakParts", "(LHeapSteps$Layer;)V"⟩, 10), (⟨"HeapSteps", "breakPart", "(LHeapSteps$Layer;IJ)V"⟩, 10), (⟨"HeapSteps", "loseHeat", "(LHeapSteps$Layer;)V"⟩, 10), (⟨"HeapSteps", "driveOff", "(LHeapSteps$Layer;)V"⟩, 10), (⟨"HeapSteps", "shareOut", "(I)V"⟩, 10), (⟨"HeapSteps", "inAllLayers", "(I)J"⟩, 10), (⟨"HeapSteps", "putInLessThere", "(I)J"⟩, 10), (⟨"HeapStepsModel", "isLayer", "(I)Z"⟩, 24), (⟨"HeapStepsModel", "warmest", "()J"⟩, 24), (⟨"HeapStepsModel", "warmthOf", "(I)J"⟩, 24), (⟨"HeapStepsModel", "massOf", "(I)J"⟩, 24)]
theorem lw_r1 : ∀ q ∈ lw_privs_1, lw_okq q := List.forall_mem_cons.mpr ⟨lw_p0, List.forall_mem_cons.mpr ⟨lw_p1, List.forall_mem_cons.mpr ⟨lw_p2, List.forall_mem_cons.mpr ⟨lw_p3, List.forall_mem_cons.mpr ⟨lw_p4, List.forall_mem_cons.mpr ⟨lw_p5, List.forall_mem_cons.mpr ⟨lw_p6, List.forall_mem_cons.mpr ⟨lw_p7, List.forall_mem_cons.mpr ⟨lw_p8, List.forall_mem_cons.mpr ⟨lw_p9, List.forall_mem_cons.mpr ⟨lw_p10, List.forall_mem_cons.mpr ⟨lw_p11, List.forall_mem_cons.mpr ⟨lw_p12, List.forall_mem_cons.mpr ⟨lw_p13, List.forall_mem_cons.mpr ⟨lw_p14, List.forall_mem_cons.mpr ⟨lw_p15, fun _ h => absurd h List.not_mem_nil⟩⟩⟩⟩⟩⟩⟩⟩⟩⟩⟩⟩⟩⟩⟩⟩
theorem lw_p16 : lw_okq (⟨"HeapStepsModel", "minute", "()V"⟩, 24) := ⟨⟨by decide +kernel, by decide +kernel⟩, List.mem_of_getElem? (i := 312) (by decide +kernel), List.mem_of_getElem? (i := 464) (by decide +kernel), List.mem_of_getElem? (i := 465) (by decide +kernel)⟩
theorem lw_p17 : lw_okq (⟨"HeapStepsModel", "breaks", "(I)V"⟩, 24) := ⟨⟨by decide +kernel, by decide +kernel⟩, List.mem_of_getElem? (i := 312) (by decide +kernel), List.mem_of_getElem? (i := 468) (by decide +kernel), List.mem_of_getElem? (i := 469) (by decide +kernel)⟩
theorem lw_p18 : lw_okq (⟨"HeapStepsModel", "rateOf", "(IJ)J"⟩, 24) := ⟨⟨by decide +kernel, by decide +kernel⟩, List.mem_of_getElem? (i := 312) (by decide +kernel), List.mem_of_getElem? (i := 472) (by decide +kernel), List.mem_of_getElem? (i := 473) (by decide +kernel)⟩
theorem lw_p19 : lw_okq (⟨"HeapStepsModel", "loses", "(I)V"⟩, 24) := ⟨⟨by decide +kernel, by decide +kernel⟩, List.mem_of_getElem? (i := 312) (by decide +kernel), List.mem_of_getElem? (i := 479) (by decide +kernel), List.mem_of_getElem? (i := 480) (by decide +kernel)⟩
theorem lw_p20 : lw_okq (⟨"HeapStepsModel", "setFan", "()V"⟩, 24) := ⟨⟨by decide +kernel, by decide +kernel⟩, List.mem_of_getElem? (i := 312) (by decide +kernel), List.mem_of_getElem? (i := 484) (by decide +kernel), List.mem_of_getElem? (i := 485) (by decide +kernel)⟩
theorem lw_p21 : lw_okq (⟨"HeapStepsModel", "shareOf", "(JI)J"⟩, 24) := ⟨⟨by decide +kernel, by decide +kernel⟩, List.mem_of_getElem? (i := 312) (by decide +kernel), List.mem_of_getElem? (i := 513) (by decide +kernel), List.mem_of_getElem? (i := 514) (by decide +kernel)⟩
theorem lw_p22 : lw_okq (⟨"HeapStepsModel", "there", "(I)J"⟩, 24) := ⟨⟨by decide +kernel, by decide +kernel⟩, List.mem_of_getElem? (i := 312) (by decide +kernel), List.mem_of_getElem? (i := 527) (by decide +kernel), List.mem_of_getElem? (i := 528) (by decide +kernel)⟩
def lw_privs_2 : List (MethodName × Nat) := [(⟨"HeapStepsModel", "minute", "()V"⟩, 24), (⟨"HeapStepsModel", "breaks", "(I)V"⟩, 24), (⟨"HeapStepsModel", "rateOf", "(IJ)J"⟩, 24), (⟨"HeapStepsModel", "loses", "(I)V"⟩, 24), (⟨"HeapStepsModel", "setFan", "()V"⟩, 24), (⟨"HeapStepsModel", "shareOf", "(JI)J"⟩, 24), (⟨"HeapStepsModel", "there", "(I)J"⟩, 24)]
theorem lw_r2 : ∀ q ∈ lw_privs_2, lw_okq q := List.forall_mem_cons.mpr ⟨lw_p16, List.forall_mem_cons.mpr ⟨lw_p17, List.forall_mem_cons.mpr ⟨lw_p18, List.forall_mem_cons.mpr ⟨lw_p19, List.forall_mem_cons.mpr ⟨lw_p20, List.forall_mem_cons.mpr ⟨lw_p21, List.forall_mem_cons.mpr ⟨lw_p22, fun _ h => absurd h List.not_mem_nil⟩⟩⟩⟩⟩⟩⟩
def lw_privs : List (MethodName × Nat) := lw_privs_1 ++ (lw_privs_2)
def lw_tbl : List Cond := k2_sels lw_privs ++ tables_1
theorem lw_privs_ok : ∀ q ∈ lw_privs, lw_okq q := by
  show ∀ q ∈ lw_privs_1 ++ (lw_privs_2), lw_okq q
  exact List.forall_mem_append.mpr ⟨lw_r1, lw_r2⟩

-- ===== end of PART A; names =====
def T_X : u_T := fun k => match k with
  | 0 => ("HeapSteps", "layers", "[LHeapSteps$Layer;", true)
  | 1 => ("HeapSteps", "kinds", "[LHeapSteps$Kind;", true)
  | 2 => ("HeapSteps", "blower", "LHeapSteps$Fan;", true)
  | 3 => ("HeapSteps", "sums", "[J", true)
  | 4 => ("HeapSteps", "putIn", "[J", true)
  | 5 => ("HeapSteps", "takenAway", "[J", true)
  | 6 => ("HeapSteps", "rainGrams", "I", false)
  | 7 => ("HeapSteps", "lossMillionths", "I", false)
  | 8 => ("HeapSteps", "limitWarmth", "I", false)
  | _ => ("HeapSteps", "turns", "I", false)
def ty_X : Nat → FieldType := fun k => match k with
  | 0 => .array (.object "HeapSteps$Layer")
  | 1 => .array (.object "HeapSteps$Kind")
  | 2 => .object "HeapSteps$Fan"
  | 3 => .array .long
  | 4 => .array .long
  | 5 => .array .long
  | 6 => .int
  | 7 => .int
  | 8 => .int
  | _ => .int
def T_F : u_T := fun k => match k with
  | 0 => ("HeapSteps$Fan", "told", "Z", false)
  | 1 => ("HeapSteps$Fan", "target", "I", false)
  | 2 => ("HeapSteps$Fan", "p", "I", false)
  | 3 => ("HeapSteps$Fan", "i", "I", false)
  | 4 => ("HeapSteps$Fan", "sum", "J", false)
  | _ => ("HeapSteps$Fan", "setting", "I", false)
def ty_F : Nat → FieldType := fun k => match k with
  | 0 => .boolean
  | 1 => .int
  | 2 => .int
  | 3 => .int
  | 4 => .long
  | _ => .int
def T_K : u_T := fun k => match k with
  | 0 => ("HeapSteps$Kind", "fromWarmth", "[I", true)
  | 1 => ("HeapSteps$Kind", "millionths", "[I", true)
  | 2 => ("HeapSteps$Kind", "rows", "I", false)
  | 3 => ("HeapSteps$Kind", "heatYield", "I", false)
  | _ => ("HeapSteps$Kind", "waterYield", "I", false)
def ty_K : Nat → FieldType := fun k => match k with
  | 0 => .array .int
  | 1 => .array .int
  | 2 => .int
  | 3 => .int
  | _ => .int
def T_Y : u_T := fun k => match k with
  | 0 => ("HeapSteps$Layer", "stock", "[J", true)
  | 1 => ("HeapSteps$Layer", "dry", "I", false)
  | _ => ("HeapSteps$Layer", "holds", "I", false)
def ty_Y : Nat → FieldType := fun k => match k with
  | 0 => .array .long
  | 1 => .int
  | _ => .int
def T_M : u_T := fun k => match k with
  | 0 => ("HeapStepsModel", "layers", "I", true)
  | 1 => ("HeapStepsModel", "parts", "[J", true)
  | 2 => ("HeapStepsModel", "waters", "[J", true)
  | 3 => ("HeapStepsModel", "heats", "[J", true)
  | 4 => ("HeapStepsModel", "dry", "[J", true)
  | 5 => ("HeapStepsModel", "holds", "[J", true)
  | 6 => ("HeapStepsModel", "rowCounts", "[I", true)
  | 7 => ("HeapStepsModel", "rowWarmths", "[I", true)
  | 8 => ("HeapStepsModel", "rowRates", "[I", true)
  | 9 => ("HeapStepsModel", "heatYields", "[I", true)
  | 10 => ("HeapStepsModel", "waterYields", "[I", true)
  | 11 => ("HeapStepsModel", "rain", "I", false)
  | 12 => ("HeapStepsModel", "loss", "I", false)
  | 13 => ("HeapStepsModel", "hasFan", "Z", false)
  | 14 => ("HeapStepsModel", "target", "I", false)
  | 15 => ("HeapStepsModel", "byNow", "I", false)
  | 16 => ("HeapStepsModel", "bySum", "I", false)
  | 17 => ("HeapStepsModel", "sum", "J", false)
  | 18 => ("HeapStepsModel", "air", "I", false)
  | 19 => ("HeapStepsModel", "limit", "J", false)
  | 20 => ("HeapStepsModel", "turns", "I", false)
  | 21 => ("HeapStepsModel", "gone", "[J", true)
  | 22 => ("HeapStepsModel", "put", "[J", true)
  | _ => ("HeapStepsModel", "taken", "[J", true)
def ty_M : Nat → FieldType := fun k => match k with
  | 0 => .int
  | 1 => .array .long
  | 2 => .array .long
  | 3 => .array .long
  | 4 => .array .long
  | 5 => .array .long
  | 6 => .array .int
  | 7 => .array .int
  | 8 => .array .int
  | 9 => .array .int
  | 10 => .array .int
  | 11 => .int
  | 12 => .int
  | 13 => .boolean
  | 14 => .int
  | 15 => .int
  | 16 => .int
  | 17 => .long
  | 18 => .int
  | 19 => .long
  | 20 => .int
  | 21 => .array .long
  | 22 => .array .long
  | _ => .array .long
abbrev vwCl : List vw_C := [("HeapSteps", T_X, 10), ("HeapSteps$Fan", T_F, 6), ("HeapSteps$Kind", T_K, 5), ("HeapSteps$Layer", T_Y, 3), ("HeapStepsModel", T_M, 24)]
theorem n_X : ∀ a, a < 10 → ∀ b, b < 10 → a ≠ b → (T_X a).2.1 ≠ (T_X b).2.1 := by decide +kernel
theorem ty_X_ok : ∀ k, k < 10 → parseFieldDescriptor (T_X k).2.2.1 = some (ty_X k) := by decide +kernel
theorem n_F : ∀ a, a < 6 → ∀ b, b < 6 → a ≠ b → (T_F a).2.1 ≠ (T_F b).2.1 := by decide +kernel
theorem ty_F_ok : ∀ k, k < 6 → parseFieldDescriptor (T_F k).2.2.1 = some (ty_F k) := by decide +kernel
theorem n_K : ∀ a, a < 5 → ∀ b, b < 5 → a ≠ b → (T_K a).2.1 ≠ (T_K b).2.1 := by decide +kernel
theorem ty_K_ok : ∀ k, k < 5 → parseFieldDescriptor (T_K k).2.2.1 = some (ty_K k) := by decide +kernel
theorem n_Y : ∀ a, a < 3 → ∀ b, b < 3 → a ≠ b → (T_Y a).2.1 ≠ (T_Y b).2.1 := by decide +kernel
theorem ty_Y_ok : ∀ k, k < 3 → parseFieldDescriptor (T_Y k).2.2.1 = some (ty_Y k) := by decide +kernel
theorem n_M : ∀ a, a < 24 → ∀ b, b < 24 → a ≠ b → (T_M a).2.1 ≠ (T_M b).2.1 := by decide +kernel
theorem ty_M_ok : ∀ k, k < 24 → parseFieldDescriptor (T_M k).2.2.1 = some (ty_M k) := by decide +kernel
/-- the tables' words that a callee may be given -/
def tb : List Cond := lw_tbl.filter goodWord
theorem tb_lw : ∀ w ∈ tb, w ∈ lw_tbl := fun _ h => (List.mem_filter.mp h).1
theorem tw_0 : (Cond.selects "HeapSteps" (⟨"HeapSteps", "layerAt", "(I)LHeapSteps$Layer;"⟩ : MethodName) (⟨"HeapSteps", "layerAt", "(I)LHeapSteps$Layer;"⟩ : MethodName)) ∈ tb := List.mem_filter.mpr ⟨List.mem_of_getElem? (i := 0) (by decide +kernel), by decide +kernel⟩
theorem tw_1 : (Cond.selects "HeapSteps" (⟨"HeapSteps", "bring", "(LHeapSteps$Layer;IIJ)Z"⟩ : MethodName) (⟨"HeapSteps", "bring", "(LHeapSteps$Layer;IIJ)Z"⟩ : MethodName)) ∈ tb := List.mem_filter.mpr ⟨List.mem_of_getElem? (i := 1) (by decide +kernel), by decide +kernel⟩
theorem tw_2 : (Cond.selects "HeapSteps" (⟨"HeapSteps", "greatestWarmth", "()J"⟩ : MethodName) (⟨"HeapSteps", "greatestWarmth", "()J"⟩ : MethodName)) ∈ tb := List.mem_filter.mpr ⟨List.mem_of_getElem? (i := 2) (by decide +kernel), by decide +kernel⟩
theorem tw_3 : (Cond.selects "HeapSteps" (⟨"HeapSteps", "passMinute", "()V"⟩ : MethodName) (⟨"HeapSteps", "passMinute", "()V"⟩ : MethodName)) ∈ tb := List.mem_filter.mpr ⟨List.mem_of_getElem? (i := 3) (by decide +kernel), by decide +kernel⟩
theorem tw_4 : (Cond.selects "HeapSteps" (⟨"HeapSteps", "pour", "(JI)V"⟩ : MethodName) (⟨"HeapSteps", "pour", "(JI)V"⟩ : MethodName)) ∈ tb := List.mem_filter.mpr ⟨List.mem_of_getElem? (i := 4) (by decide +kernel), by decide +kernel⟩
theorem tw_5 : (Cond.selects "HeapSteps" (⟨"HeapSteps", "breakParts", "(LHeapSteps$Layer;)V"⟩ : MethodName) (⟨"HeapSteps", "breakParts", "(LHeapSteps$Layer;)V"⟩ : MethodName)) ∈ tb := List.mem_filter.mpr ⟨List.mem_of_getElem? (i := 5) (by decide +kernel), by decide +kernel⟩
theorem tw_6 : (Cond.selects "HeapSteps" (⟨"HeapSteps", "breakPart", "(LHeapSteps$Layer;IJ)V"⟩ : MethodName) (⟨"HeapSteps", "breakPart", "(LHeapSteps$Layer;IJ)V"⟩ : MethodName)) ∈ tb := List.mem_filter.mpr ⟨List.mem_of_getElem? (i := 6) (by decide +kernel), by decide +kernel⟩
theorem tw_7 : (Cond.selects "HeapSteps" (⟨"HeapSteps", "loseHeat", "(LHeapSteps$Layer;)V"⟩ : MethodName) (⟨"HeapSteps", "loseHeat", "(LHeapSteps$Layer;)V"⟩ : MethodName)) ∈ tb := List.mem_filter.mpr ⟨List.mem_of_getElem? (i := 7) (by decide +kernel), by decide +kernel⟩
theorem tw_8 : (Cond.selects "HeapSteps" (⟨"HeapSteps", "driveOff", "(LHeapSteps$Layer;)V"⟩ : MethodName) (⟨"HeapSteps", "driveOff", "(LHeapSteps$Layer;)V"⟩ : MethodName)) ∈ tb := List.mem_filter.mpr ⟨List.mem_of_getElem? (i := 8) (by decide +kernel), by decide +kernel⟩
theorem tw_9 : (Cond.selects "HeapSteps" (⟨"HeapSteps", "shareOut", "(I)V"⟩ : MethodName) (⟨"HeapSteps", "shareOut", "(I)V"⟩ : MethodName)) ∈ tb := List.mem_filter.mpr ⟨List.mem_of_getElem? (i := 9) (by decide +kernel), by decide +kernel⟩
theorem tw_10 : (Cond.selects "HeapSteps" (⟨"HeapSteps", "inAllLayers", "(I)J"⟩ : MethodName) (⟨"HeapSteps", "inAllLayers", "(I)J"⟩ : MethodName)) ∈ tb := List.mem_filter.mpr ⟨List.mem_of_getElem? (i := 10) (by decide +kernel), by decide +kernel⟩
theorem tw_11 : (Cond.selects "HeapSteps" (⟨"HeapSteps", "putInLessThere", "(I)J"⟩ : MethodName) (⟨"HeapSteps", "putInLessThere", "(I)J"⟩ : MethodName)) ∈ tb := List.mem_filter.mpr ⟨List.mem_of_getElem? (i := 11) (by decide +kernel), by decide +kernel⟩
theorem tw_12 : (Cond.selects "HeapStepsModel" (⟨"HeapStepsModel", "isLayer", "(I)Z"⟩ : MethodName) (⟨"HeapStepsModel", "isLayer", "(I)Z"⟩ : MethodName)) ∈ tb := List.mem_filter.mpr ⟨List.mem_of_getElem? (i := 12) (by decide +kernel), by decide +kernel⟩
theorem tw_13 : (Cond.selects "HeapStepsModel" (⟨"HeapStepsModel", "warmest", "()J"⟩ : MethodName) (⟨"HeapStepsModel", "warmest", "()J"⟩ : MethodName)) ∈ tb := List.mem_filter.mpr ⟨List.mem_of_getElem? (i := 13) (by decide +kernel), by decide +kernel⟩
theorem tw_14 : (Cond.selects "HeapStepsModel" (⟨"HeapStepsModel", "warmthOf", "(I)J"⟩ : MethodName) (⟨"HeapStepsModel", "warmthOf", "(I)J"⟩ : MethodName)) ∈ tb := List.mem_filter.mpr ⟨List.mem_of_getElem? (i := 14) (by decide +kernel), by decide +kernel⟩
theorem tw_15 : (Cond.selects "HeapStepsModel" (⟨"HeapStepsModel", "massOf", "(I)J"⟩ : MethodName) (⟨"HeapStepsModel", "massOf", "(I)J"⟩ : MethodName)) ∈ tb := List.mem_filter.mpr ⟨List.mem_of_getElem? (i := 15) (by decide +kernel), by decide +kernel⟩
theorem tw_16 : (Cond.selects "HeapStepsModel" (⟨"HeapStepsModel", "minute", "()V"⟩ : MethodName) (⟨"HeapStepsModel", "minute", "()V"⟩ : MethodName)) ∈ tb := List.mem_filter.mpr ⟨List.mem_of_getElem? (i := 16) (by decide +kernel), by decide +kernel⟩
theorem tw_17 : (Cond.selects "HeapStepsModel" (⟨"HeapStepsModel", "breaks", "(I)V"⟩ : MethodName) (⟨"HeapStepsModel", "breaks", "(I)V"⟩ : MethodName)) ∈ tb := List.mem_filter.mpr ⟨List.mem_of_getElem? (i := 17) (by decide +kernel), by decide +kernel⟩
theorem tw_18 : (Cond.selects "HeapStepsModel" (⟨"HeapStepsModel", "rateOf", "(IJ)J"⟩ : MethodName) (⟨"HeapStepsModel", "rateOf", "(IJ)J"⟩ : MethodName)) ∈ tb := List.mem_filter.mpr ⟨List.mem_of_getElem? (i := 18) (by decide +kernel), by decide +kernel⟩
theorem tw_19 : (Cond.selects "HeapStepsModel" (⟨"HeapStepsModel", "loses", "(I)V"⟩ : MethodName) (⟨"HeapStepsModel", "loses", "(I)V"⟩ : MethodName)) ∈ tb := List.mem_filter.mpr ⟨List.mem_of_getElem? (i := 19) (by decide +kernel), by decide +kernel⟩
theorem tw_20 : (Cond.selects "HeapStepsModel" (⟨"HeapStepsModel", "setFan", "()V"⟩ : MethodName) (⟨"HeapStepsModel", "setFan", "()V"⟩ : MethodName)) ∈ tb := List.mem_filter.mpr ⟨List.mem_of_getElem? (i := 20) (by decide +kernel), by decide +kernel⟩
theorem tw_21 : (Cond.selects "HeapStepsModel" (⟨"HeapStepsModel", "shareOf", "(JI)J"⟩ : MethodName) (⟨"HeapStepsModel", "shareOf", "(JI)J"⟩ : MethodName)) ∈ tb := List.mem_filter.mpr ⟨List.mem_of_getElem? (i := 21) (by decide +kernel), by decide +kernel⟩
theorem tw_22 : (Cond.selects "HeapStepsModel" (⟨"HeapStepsModel", "there", "(I)J"⟩ : MethodName) (⟨"HeapStepsModel", "there", "(I)J"⟩ : MethodName)) ∈ tb := List.mem_filter.mpr ⟨List.mem_of_getElem? (i := 22) (by decide +kernel), by decide +kernel⟩
theorem tw_23 : (Cond.initialized "HeapStepsLaw") ∈ tb := List.mem_filter.mpr ⟨List.mem_of_getElem? (i := 23) (by decide +kernel), by decide +kernel⟩
theorem tw_24 : (Cond.initialized "HeapSteps") ∈ tb := List.mem_filter.mpr ⟨List.mem_of_getElem? (i := 24) (by decide +kernel), by decide +kernel⟩
theorem tw_25 : (Cond.initialized "HeapSteps$Fan") ∈ tb := List.mem_filter.mpr ⟨List.mem_of_getElem? (i := 25) (by decide +kernel), by decide +kernel⟩
theorem tw_26 : (Cond.initialized "HeapSteps$Layer") ∈ tb := List.mem_filter.mpr ⟨List.mem_of_getElem? (i := 26) (by decide +kernel), by decide +kernel⟩
theorem tw_27 : (Cond.initialized "HeapSteps$Kind") ∈ tb := List.mem_filter.mpr ⟨List.mem_of_getElem? (i := 27) (by decide +kernel), by decide +kernel⟩
theorem tw_28 : (Cond.initialized "HeapStepsModel") ∈ tb := List.mem_filter.mpr ⟨List.mem_of_getElem? (i := 28) (by decide +kernel), by decide +kernel⟩
theorem tw_29 : (Cond.initialized "java/lang/Math") ∈ tb := List.mem_filter.mpr ⟨List.mem_of_getElem? (i := 29) (by decide +kernel), by decide +kernel⟩
theorem tw_30 : (Cond.classLink "HeapStepsLaw" (7 : Nat) "HeapSteps") ∈ tb := List.mem_filter.mpr ⟨List.mem_of_getElem? (i := 30) (by decide +kernel), by decide +kernel⟩
theorem tw_31 : (Cond.instantiable "HeapSteps" (10 : Nat)) ∈ tb := List.mem_filter.mpr ⟨List.mem_of_getElem? (i := 31) (by decide +kernel), by decide +kernel⟩
theorem tw_32 : (Cond.methodLink "HeapStepsLaw" (15 : Nat) (⟨"HeapSteps", "<init>", "(I)V"⟩ : MethodName)) ∈ tb := List.mem_filter.mpr ⟨List.mem_of_getElem? (i := 32) (by decide +kernel), by decide +kernel⟩
theorem tw_33 : (Cond.instanceMethod (⟨"HeapSteps", "<init>", "(I)V"⟩ : MethodName)) ∈ tb := List.mem_filter.mpr ⟨List.mem_of_getElem? (i := 33) (by decide +kernel), by decide +kernel⟩
theorem tw_34 : (Cond.code (⟨"HeapSteps", "<init>", "(I)V"⟩ : MethodName) prog_1_method_1_code (4 : Nat) (Option.none : Option FieldType)) ∈ tb := List.mem_filter.mpr ⟨List.mem_of_getElem? (i := 34) (by decide +kernel), by decide +kernel⟩
theorem tw_35 : (Cond.methodLink "HeapSteps" (1 : Nat) (⟨"java/lang/Object", "<init>", "()V"⟩ : MethodName)) ∈ tb := List.mem_filter.mpr ⟨List.mem_of_getElem? (i := 35) (by decide +kernel), by decide +kernel⟩
theorem tw_36 : (Cond.instanceMethod (⟨"java/lang/Object", "<init>", "()V"⟩ : MethodName)) ∈ tb := List.mem_filter.mpr ⟨List.mem_of_getElem? (i := 36) (by decide +kernel), by decide +kernel⟩
theorem tw_37 : (Cond.code (⟨"java/lang/Object", "<init>", "()V"⟩ : MethodName) object_method_1_code (1 : Nat) (Option.none : Option FieldType)) ∈ tb := List.mem_filter.mpr ⟨List.mem_of_getElem? (i := 37) (by decide +kernel), by decide +kernel⟩
theorem tw_38 : (Cond.classLink "HeapSteps" (9 : Nat) "HeapSteps$Kind") ∈ tb := List.mem_filter.mpr ⟨List.mem_of_getElem? (i := 38) (by decide +kernel), by decide +kernel⟩
theorem tn_39 : (Cond.arrayOver (FieldType.object "HeapSteps$Kind")) ∈ lw_tbl := List.mem_of_getElem? (i := 39) (by decide +kernel)
theorem tw_40 : (Cond.classLink "HeapSteps" (15 : Nat) "HeapSteps$Fan") ∈ tb := List.mem_filter.mpr ⟨List.mem_of_getElem? (i := 40) (by decide +kernel), by decide +kernel⟩
theorem tw_41 : (Cond.instantiable "HeapSteps$Fan" (6 : Nat)) ∈ tb := List.mem_filter.mpr ⟨List.mem_of_getElem? (i := 41) (by decide +kernel), by decide +kernel⟩
theorem tn_42 : (Cond.methodLinkNest "HeapSteps" (17 : Nat) (⟨"HeapSteps$Fan", "<init>", "()V"⟩ : MethodName) "HeapSteps") ∈ lw_tbl := List.mem_of_getElem? (i := 42) (by decide +kernel)
theorem tw_43 : (Cond.instanceMethod (⟨"HeapSteps$Fan", "<init>", "()V"⟩ : MethodName)) ∈ tb := List.mem_filter.mpr ⟨List.mem_of_getElem? (i := 43) (by decide +kernel), by decide +kernel⟩
theorem tw_44 : (Cond.code (⟨"HeapSteps$Fan", "<init>", "()V"⟩ : MethodName) prog_2_method_1_code (1 : Nat) (Option.none : Option FieldType)) ∈ tb := List.mem_filter.mpr ⟨List.mem_of_getElem? (i := 44) (by decide +kernel), by decide +kernel⟩
theorem tw_45 : (Cond.methodLink "HeapSteps$Fan" (3 : Nat) (⟨"java/lang/Object", "<init>", "()V"⟩ : MethodName)) ∈ tb := List.mem_filter.mpr ⟨List.mem_of_getElem? (i := 45) (by decide +kernel), by decide +kernel⟩
theorem tw_46 : (Cond.fieldLink "HeapSteps$Fan" (9 : Nat) "HeapSteps$Fan" "told" "Z") ∈ tb := List.mem_filter.mpr ⟨List.mem_of_getElem? (i := 46) (by decide +kernel), by decide +kernel⟩
theorem tw_47 : (Cond.fieldLink "HeapSteps$Fan" (15 : Nat) "HeapSteps$Fan" "target" "I") ∈ tb := List.mem_filter.mpr ⟨List.mem_of_getElem? (i := 47) (by decide +kernel), by decide +kernel⟩
theorem tw_48 : (Cond.fieldLink "HeapSteps$Fan" (19 : Nat) "HeapSteps$Fan" "p" "I") ∈ tb := List.mem_filter.mpr ⟨List.mem_of_getElem? (i := 48) (by decide +kernel), by decide +kernel⟩
theorem tw_49 : (Cond.fieldLink "HeapSteps$Fan" (22 : Nat) "HeapSteps$Fan" "i" "I") ∈ tb := List.mem_filter.mpr ⟨List.mem_of_getElem? (i := 49) (by decide +kernel), by decide +kernel⟩
theorem tw_50 : (Cond.fieldLink "HeapSteps$Fan" (25 : Nat) "HeapSteps$Fan" "sum" "J") ∈ tb := List.mem_filter.mpr ⟨List.mem_of_getElem? (i := 50) (by decide +kernel), by decide +kernel⟩
theorem tw_51 : (Cond.fieldLink "HeapSteps$Fan" (29 : Nat) "HeapSteps$Fan" "setting" "I") ∈ tb := List.mem_filter.mpr ⟨List.mem_of_getElem? (i := 51) (by decide +kernel), by decide +kernel⟩
theorem tw_52 : (Cond.fieldLink "HeapSteps" (113 : Nat) "HeapSteps$Fan" "setting" "I") ∈ tb := List.mem_filter.mpr ⟨List.mem_of_getElem? (i := 52) (by decide +kernel), by decide +kernel⟩
theorem tw_53 : (Cond.lays "HeapSteps$Fan" "HeapSteps$Fan" "told" "Z") ∈ tb := List.mem_filter.mpr ⟨List.mem_of_getElem? (i := 53) (by decide +kernel), by decide +kernel⟩
theorem tw_55 : (Cond.lays "HeapSteps$Fan" "HeapSteps$Fan" "target" "I") ∈ tb := List.mem_filter.mpr ⟨List.mem_of_getElem? (i := 55) (by decide +kernel), by decide +kernel⟩
theorem tw_57 : (Cond.lays "HeapSteps$Fan" "HeapSteps$Fan" "p" "I") ∈ tb := List.mem_filter.mpr ⟨List.mem_of_getElem? (i := 57) (by decide +kernel), by decide +kernel⟩
theorem tw_59 : (Cond.lays "HeapSteps$Fan" "HeapSteps$Fan" "i" "I") ∈ tb := List.mem_filter.mpr ⟨List.mem_of_getElem? (i := 59) (by decide +kernel), by decide +kernel⟩
theorem tw_61 : (Cond.lays "HeapSteps$Fan" "HeapSteps$Fan" "sum" "J") ∈ tb := List.mem_filter.mpr ⟨List.mem_of_getElem? (i := 61) (by decide +kernel), by decide +kernel⟩
theorem tw_63 : (Cond.lays "HeapSteps$Fan" "HeapSteps$Fan" "setting" "I") ∈ tb := List.mem_filter.mpr ⟨List.mem_of_getElem? (i := 63) (by decide +kernel), by decide +kernel⟩
theorem tw_66 : (Cond.constant "HeapSteps" (39 : Nat) (1000000000 : Int32)) ∈ tb := List.mem_filter.mpr ⟨List.mem_of_getElem? (i := 66) (by decide +kernel), by decide +kernel⟩
theorem tw_67 : (Cond.methodLink "HeapSteps" (46 : Nat) (⟨"HeapSteps", "within", "(III)Z"⟩ : MethodName)) ∈ tb := List.mem_filter.mpr ⟨List.mem_of_getElem? (i := 67) (by decide +kernel), by decide +kernel⟩
theorem tw_68 : (Cond.static (⟨"HeapSteps", "within", "(III)Z"⟩ : MethodName)) ∈ tb := List.mem_filter.mpr ⟨List.mem_of_getElem? (i := 68) (by decide +kernel), by decide +kernel⟩
theorem tw_69 : (Cond.code (⟨"HeapSteps", "within", "(III)Z"⟩ : MethodName) prog_1_method_21_code (3 : Nat) (Option.some FieldType.boolean)) ∈ tb := List.mem_filter.mpr ⟨List.mem_of_getElem? (i := 69) (by decide +kernel), by decide +kernel⟩
theorem tw_70 : (Cond.classLink "HeapSteps" (50 : Nat) "HeapSteps$Layer") ∈ tb := List.mem_filter.mpr ⟨List.mem_of_getElem? (i := 70) (by decide +kernel), by decide +kernel⟩
theorem tn_71 : (Cond.arrayOver (FieldType.object "HeapSteps$Layer")) ∈ lw_tbl := List.mem_of_getElem? (i := 71) (by decide +kernel)
theorem tw_72 : (Cond.instantiable "HeapSteps$Layer" (3 : Nat)) ∈ tb := List.mem_filter.mpr ⟨List.mem_of_getElem? (i := 72) (by decide +kernel), by decide +kernel⟩
theorem tn_73 : (Cond.methodLinkNest "HeapSteps" (56 : Nat) (⟨"HeapSteps$Layer", "<init>", "()V"⟩ : MethodName) "HeapSteps") ∈ lw_tbl := List.mem_of_getElem? (i := 73) (by decide +kernel)
theorem tw_74 : (Cond.instanceMethod (⟨"HeapSteps$Layer", "<init>", "()V"⟩ : MethodName)) ∈ tb := List.mem_filter.mpr ⟨List.mem_of_getElem? (i := 74) (by decide +kernel), by decide +kernel⟩
theorem tw_75 : (Cond.code (⟨"HeapSteps$Layer", "<init>", "()V"⟩ : MethodName) prog_4_method_1_code (1 : Nat) (Option.none : Option FieldType)) ∈ tb := List.mem_filter.mpr ⟨List.mem_of_getElem? (i := 75) (by decide +kernel), by decide +kernel⟩
theorem tw_76 : (Cond.methodLink "HeapSteps$Layer" (3 : Nat) (⟨"java/lang/Object", "<init>", "()V"⟩ : MethodName)) ∈ tb := List.mem_filter.mpr ⟨List.mem_of_getElem? (i := 76) (by decide +kernel), by decide +kernel⟩
theorem tw_77 : (Cond.constant "HeapSteps$Layer" (19 : Nat) (1000000000 : Int32)) ∈ tb := List.mem_filter.mpr ⟨List.mem_of_getElem? (i := 77) (by decide +kernel), by decide +kernel⟩
theorem tw_78 : (Cond.fieldLink "HeapSteps$Layer" (9 : Nat) "HeapSteps$Layer" "stock" "[J") ∈ tb := List.mem_filter.mpr ⟨List.mem_of_getElem? (i := 78) (by decide +kernel), by decide +kernel⟩
theorem tw_79 : (Cond.fieldLink "HeapSteps" (107 : Nat) "HeapSteps$Layer" "stock" "[J") ∈ tb := List.mem_filter.mpr ⟨List.mem_of_getElem? (i := 79) (by decide +kernel), by decide +kernel⟩
theorem tw_80 : (Cond.fieldLink "HeapSteps$Layer" (15 : Nat) "HeapSteps$Layer" "dry" "I") ∈ tb := List.mem_filter.mpr ⟨List.mem_of_getElem? (i := 80) (by decide +kernel), by decide +kernel⟩
theorem tw_81 : (Cond.fieldLink "HeapSteps" (86 : Nat) "HeapSteps$Layer" "dry" "I") ∈ tb := List.mem_filter.mpr ⟨List.mem_of_getElem? (i := 81) (by decide +kernel), by decide +kernel⟩
theorem tw_82 : (Cond.fieldLink "HeapSteps$Layer" (20 : Nat) "HeapSteps$Layer" "holds" "I") ∈ tb := List.mem_filter.mpr ⟨List.mem_of_getElem? (i := 82) (by decide +kernel), by decide +kernel⟩
theorem tw_83 : (Cond.fieldLink "HeapSteps" (89 : Nat) "HeapSteps$Layer" "holds" "I") ∈ tb := List.mem_filter.mpr ⟨List.mem_of_getElem? (i := 83) (by decide +kernel), by decide +kernel⟩
theorem tw_84 : (Cond.laysFinal "HeapSteps$Layer" "HeapSteps$Layer" "stock" "[J") ∈ tb := List.mem_filter.mpr ⟨List.mem_of_getElem? (i := 84) (by decide +kernel), by decide +kernel⟩
theorem tw_86 : (Cond.lays "HeapSteps$Layer" "HeapSteps$Layer" "dry" "I") ∈ tb := List.mem_filter.mpr ⟨List.mem_of_getElem? (i := 86) (by decide +kernel), by decide +kernel⟩
theorem tw_88 : (Cond.lays "HeapSteps$Layer" "HeapSteps$Layer" "holds" "I") ∈ tb := List.mem_filter.mpr ⟨List.mem_of_getElem? (i := 88) (by decide +kernel), by decide +kernel⟩
theorem tw_91 : (Cond.arrayClass FieldType.long) ∈ tb := List.mem_filter.mpr ⟨List.mem_of_getElem? (i := 91) (by decide +kernel), by decide +kernel⟩
theorem tw_92 : (Cond.instantiable "HeapSteps$Kind" (5 : Nat)) ∈ tb := List.mem_filter.mpr ⟨List.mem_of_getElem? (i := 92) (by decide +kernel), by decide +kernel⟩
theorem tn_93 : (Cond.methodLinkNest "HeapSteps" (57 : Nat) (⟨"HeapSteps$Kind", "<init>", "()V"⟩ : MethodName) "HeapSteps") ∈ lw_tbl := List.mem_of_getElem? (i := 93) (by decide +kernel)
theorem tw_94 : (Cond.instanceMethod (⟨"HeapSteps$Kind", "<init>", "()V"⟩ : MethodName)) ∈ tb := List.mem_filter.mpr ⟨List.mem_of_getElem? (i := 94) (by decide +kernel), by decide +kernel⟩
theorem tw_95 : (Cond.code (⟨"HeapSteps$Kind", "<init>", "()V"⟩ : MethodName) prog_3_method_1_code (1 : Nat) (Option.none : Option FieldType)) ∈ tb := List.mem_filter.mpr ⟨List.mem_of_getElem? (i := 95) (by decide +kernel), by decide +kernel⟩
theorem tw_96 : (Cond.methodLink "HeapSteps$Kind" (3 : Nat) (⟨"java/lang/Object", "<init>", "()V"⟩ : MethodName)) ∈ tb := List.mem_filter.mpr ⟨List.mem_of_getElem? (i := 96) (by decide +kernel), by decide +kernel⟩
theorem tw_97 : (Cond.fieldLink "HeapSteps$Kind" (9 : Nat) "HeapSteps$Kind" "fromWarmth" "[I") ∈ tb := List.mem_filter.mpr ⟨List.mem_of_getElem? (i := 97) (by decide +kernel), by decide +kernel⟩
theorem tw_98 : (Cond.fieldLink "HeapSteps$Kind" (15 : Nat) "HeapSteps$Kind" "millionths" "[I") ∈ tb := List.mem_filter.mpr ⟨List.mem_of_getElem? (i := 98) (by decide +kernel), by decide +kernel⟩
theorem tw_99 : (Cond.fieldLink "HeapSteps$Kind" (18 : Nat) "HeapSteps$Kind" "rows" "I") ∈ tb := List.mem_filter.mpr ⟨List.mem_of_getElem? (i := 99) (by decide +kernel), by decide +kernel⟩
theorem tw_100 : (Cond.fieldLink "HeapSteps$Kind" (22 : Nat) "HeapSteps$Kind" "heatYield" "I") ∈ tb := List.mem_filter.mpr ⟨List.mem_of_getElem? (i := 100) (by decide +kernel), by decide +kernel⟩
theorem tw_101 : (Cond.fieldLink "HeapSteps" (80 : Nat) "HeapSteps$Kind" "heatYield" "I") ∈ tb := List.mem_filter.mpr ⟨List.mem_of_getElem? (i := 101) (by decide +kernel), by decide +kernel⟩
theorem tw_102 : (Cond.fieldLink "HeapSteps$Kind" (25 : Nat) "HeapSteps$Kind" "waterYield" "I") ∈ tb := List.mem_filter.mpr ⟨List.mem_of_getElem? (i := 102) (by decide +kernel), by decide +kernel⟩
theorem tw_103 : (Cond.fieldLink "HeapSteps" (83 : Nat) "HeapSteps$Kind" "waterYield" "I") ∈ tb := List.mem_filter.mpr ⟨List.mem_of_getElem? (i := 103) (by decide +kernel), by decide +kernel⟩
theorem tw_104 : (Cond.laysFinal "HeapSteps$Kind" "HeapSteps$Kind" "fromWarmth" "[I") ∈ tb := List.mem_filter.mpr ⟨List.mem_of_getElem? (i := 104) (by decide +kernel), by decide +kernel⟩
theorem tw_106 : (Cond.laysFinal "HeapSteps$Kind" "HeapSteps$Kind" "millionths" "[I") ∈ tb := List.mem_filter.mpr ⟨List.mem_of_getElem? (i := 106) (by decide +kernel), by decide +kernel⟩
theorem tw_108 : (Cond.lays "HeapSteps$Kind" "HeapSteps$Kind" "rows" "I") ∈ tb := List.mem_filter.mpr ⟨List.mem_of_getElem? (i := 108) (by decide +kernel), by decide +kernel⟩
theorem tw_110 : (Cond.lays "HeapSteps$Kind" "HeapSteps$Kind" "heatYield" "I") ∈ tb := List.mem_filter.mpr ⟨List.mem_of_getElem? (i := 110) (by decide +kernel), by decide +kernel⟩
theorem tw_112 : (Cond.lays "HeapSteps$Kind" "HeapSteps$Kind" "waterYield" "I") ∈ tb := List.mem_filter.mpr ⟨List.mem_of_getElem? (i := 112) (by decide +kernel), by decide +kernel⟩
theorem tw_115 : (Cond.arrayClass FieldType.int) ∈ tb := List.mem_filter.mpr ⟨List.mem_of_getElem? (i := 115) (by decide +kernel), by decide +kernel⟩
theorem tw_116 : (Cond.fieldLink "HeapSteps" (52 : Nat) "HeapSteps" "layers" "[LHeapSteps$Layer;") ∈ tb := List.mem_filter.mpr ⟨List.mem_of_getElem? (i := 116) (by decide +kernel), by decide +kernel⟩
theorem tw_117 : (Cond.fieldLink "HeapSteps" (11 : Nat) "HeapSteps" "kinds" "[LHeapSteps$Kind;") ∈ tb := List.mem_filter.mpr ⟨List.mem_of_getElem? (i := 117) (by decide +kernel), by decide +kernel⟩
theorem tw_118 : (Cond.fieldLink "HeapSteps" (18 : Nat) "HeapSteps" "blower" "LHeapSteps$Fan;") ∈ tb := List.mem_filter.mpr ⟨List.mem_of_getElem? (i := 118) (by decide +kernel), by decide +kernel⟩
theorem tw_119 : (Cond.fieldLink "HeapSteps" (22 : Nat) "HeapSteps" "sums" "[J") ∈ tb := List.mem_filter.mpr ⟨List.mem_of_getElem? (i := 119) (by decide +kernel), by decide +kernel⟩
theorem tw_120 : (Cond.fieldLink "HeapSteps" (26 : Nat) "HeapSteps" "putIn" "[J") ∈ tb := List.mem_filter.mpr ⟨List.mem_of_getElem? (i := 120) (by decide +kernel), by decide +kernel⟩
theorem tw_121 : (Cond.fieldLink "HeapSteps" (29 : Nat) "HeapSteps" "takenAway" "[J") ∈ tb := List.mem_filter.mpr ⟨List.mem_of_getElem? (i := 121) (by decide +kernel), by decide +kernel⟩
theorem tw_122 : (Cond.fieldLink "HeapSteps" (32 : Nat) "HeapSteps" "rainGrams" "I") ∈ tb := List.mem_filter.mpr ⟨List.mem_of_getElem? (i := 122) (by decide +kernel), by decide +kernel⟩
theorem tw_123 : (Cond.fieldLink "HeapSteps" (36 : Nat) "HeapSteps" "lossMillionths" "I") ∈ tb := List.mem_filter.mpr ⟨List.mem_of_getElem? (i := 123) (by decide +kernel), by decide +kernel⟩
theorem tw_124 : (Cond.fieldLink "HeapSteps" (40 : Nat) "HeapSteps" "limitWarmth" "I") ∈ tb := List.mem_filter.mpr ⟨List.mem_of_getElem? (i := 124) (by decide +kernel), by decide +kernel⟩
theorem tw_125 : (Cond.fieldLink "HeapSteps" (43 : Nat) "HeapSteps" "turns" "I") ∈ tb := List.mem_filter.mpr ⟨List.mem_of_getElem? (i := 125) (by decide +kernel), by decide +kernel⟩
theorem tw_126 : (Cond.laysFinal "HeapSteps" "HeapSteps" "layers" "[LHeapSteps$Layer;") ∈ tb := List.mem_filter.mpr ⟨List.mem_of_getElem? (i := 126) (by decide +kernel), by decide +kernel⟩
theorem tw_128 : (Cond.laysFinal "HeapSteps" "HeapSteps" "kinds" "[LHeapSteps$Kind;") ∈ tb := List.mem_filter.mpr ⟨List.mem_of_getElem? (i := 128) (by decide +kernel), by decide +kernel⟩
theorem tw_130 : (Cond.laysFinal "HeapSteps" "HeapSteps" "blower" "LHeapSteps$Fan;") ∈ tb := List.mem_filter.mpr ⟨List.mem_of_getElem? (i := 130) (by decide +kernel), by decide +kernel⟩
theorem tw_132 : (Cond.laysFinal "HeapSteps" "HeapSteps" "sums" "[J") ∈ tb := List.mem_filter.mpr ⟨List.mem_of_getElem? (i := 132) (by decide +kernel), by decide +kernel⟩
theorem tw_134 : (Cond.laysFinal "HeapSteps" "HeapSteps" "putIn" "[J") ∈ tb := List.mem_filter.mpr ⟨List.mem_of_getElem? (i := 134) (by decide +kernel), by decide +kernel⟩
theorem tw_136 : (Cond.laysFinal "HeapSteps" "HeapSteps" "takenAway" "[J") ∈ tb := List.mem_filter.mpr ⟨List.mem_of_getElem? (i := 136) (by decide +kernel), by decide +kernel⟩
theorem tw_138 : (Cond.lays "HeapSteps" "HeapSteps" "rainGrams" "I") ∈ tb := List.mem_filter.mpr ⟨List.mem_of_getElem? (i := 138) (by decide +kernel), by decide +kernel⟩
theorem tw_140 : (Cond.lays "HeapSteps" "HeapSteps" "lossMillionths" "I") ∈ tb := List.mem_filter.mpr ⟨List.mem_of_getElem? (i := 140) (by decide +kernel), by decide +kernel⟩
theorem tw_142 : (Cond.lays "HeapSteps" "HeapSteps" "limitWarmth" "I") ∈ tb := List.mem_filter.mpr ⟨List.mem_of_getElem? (i := 142) (by decide +kernel), by decide +kernel⟩
theorem tw_144 : (Cond.lays "HeapSteps" "HeapSteps" "turns" "I") ∈ tb := List.mem_filter.mpr ⟨List.mem_of_getElem? (i := 144) (by decide +kernel), by decide +kernel⟩
theorem tw_147 : (Cond.methodLink "HeapStepsLaw" (21 : Nat) (⟨"HeapSteps", "part", "(III)Z"⟩ : MethodName)) ∈ tb := List.mem_filter.mpr ⟨List.mem_of_getElem? (i := 147) (by decide +kernel), by decide +kernel⟩
theorem tw_148 : (Cond.instanceMethod (⟨"HeapSteps", "part", "(III)Z"⟩ : MethodName)) ∈ tb := List.mem_filter.mpr ⟨List.mem_of_getElem? (i := 148) (by decide +kernel), by decide +kernel⟩
theorem tw_149 : (Cond.selects "HeapSteps" (⟨"HeapSteps", "part", "(III)Z"⟩ : MethodName) (⟨"HeapSteps", "part", "(III)Z"⟩ : MethodName)) ∈ tb := List.mem_filter.mpr ⟨List.mem_of_getElem? (i := 149) (by decide +kernel), by decide +kernel⟩
theorem tw_150 : (Cond.code (⟨"HeapSteps", "part", "(III)Z"⟩ : MethodName) prog_1_method_2_code (4 : Nat) (Option.some FieldType.boolean)) ∈ tb := List.mem_filter.mpr ⟨List.mem_of_getElem? (i := 150) (by decide +kernel), by decide +kernel⟩
theorem tw_151 : (Cond.methodLink "HeapSteps" (58 : Nat) (⟨"HeapSteps", "isPart", "(I)Z"⟩ : MethodName)) ∈ tb := List.mem_filter.mpr ⟨List.mem_of_getElem? (i := 151) (by decide +kernel), by decide +kernel⟩
theorem tw_152 : (Cond.static (⟨"HeapSteps", "isPart", "(I)Z"⟩ : MethodName)) ∈ tb := List.mem_filter.mpr ⟨List.mem_of_getElem? (i := 152) (by decide +kernel), by decide +kernel⟩
theorem tw_153 : (Cond.code (⟨"HeapSteps", "isPart", "(I)Z"⟩ : MethodName) prog_1_method_22_code (1 : Nat) (Option.some FieldType.boolean)) ∈ tb := List.mem_filter.mpr ⟨List.mem_of_getElem? (i := 153) (by decide +kernel), by decide +kernel⟩
theorem tw_154 : (Cond.constant "HeapSteps" (62 : Nat) (1000000 : Int32)) ∈ tb := List.mem_filter.mpr ⟨List.mem_of_getElem? (i := 154) (by decide +kernel), by decide +kernel⟩
theorem tw_155 : (Cond.methodLink "HeapSteps" (63 : Nat) (⟨"HeapSteps", "layerAt", "(I)LHeapSteps$Layer;"⟩ : MethodName)) ∈ tb := List.mem_filter.mpr ⟨List.mem_of_getElem? (i := 155) (by decide +kernel), by decide +kernel⟩
theorem tw_157 : (Cond.instanceMethod (⟨"HeapSteps", "layerAt", "(I)LHeapSteps$Layer;"⟩ : MethodName)) ∈ tb := List.mem_filter.mpr ⟨List.mem_of_getElem? (i := 157) (by decide +kernel), by decide +kernel⟩
theorem tw_158 : (Cond.code (⟨"HeapSteps", "layerAt", "(I)LHeapSteps$Layer;"⟩ : MethodName) prog_1_method_25_code (2 : Nat) (Option.some (FieldType.object "HeapSteps$Layer"))) ∈ tb := List.mem_filter.mpr ⟨List.mem_of_getElem? (i := 158) (by decide +kernel), by decide +kernel⟩
theorem tw_159 : (Cond.constantLong "HeapSteps" (67 : Nat) (1000000000 : Int64)) ∈ tb := List.mem_filter.mpr ⟨List.mem_of_getElem? (i := 159) (by decide +kernel), by decide +kernel⟩
theorem tw_160 : (Cond.methodLink "HeapSteps" (69 : Nat) (⟨"HeapSteps", "bring", "(LHeapSteps$Layer;IIJ)Z"⟩ : MethodName)) ∈ tb := List.mem_filter.mpr ⟨List.mem_of_getElem? (i := 160) (by decide +kernel), by decide +kernel⟩
theorem tw_162 : (Cond.instanceMethod (⟨"HeapSteps", "bring", "(LHeapSteps$Layer;IIJ)Z"⟩ : MethodName)) ∈ tb := List.mem_filter.mpr ⟨List.mem_of_getElem? (i := 162) (by decide +kernel), by decide +kernel⟩
theorem tw_163 : (Cond.code (⟨"HeapSteps", "bring", "(LHeapSteps$Layer;IIJ)Z"⟩ : MethodName) prog_1_method_26_code (6 : Nat) (Option.some FieldType.boolean)) ∈ tb := List.mem_filter.mpr ⟨List.mem_of_getElem? (i := 163) (by decide +kernel), by decide +kernel⟩
theorem tw_164 : (Cond.methodLink "HeapStepsLaw" (26 : Nat) (⟨"HeapSteps", "water", "(II)Z"⟩ : MethodName)) ∈ tb := List.mem_filter.mpr ⟨List.mem_of_getElem? (i := 164) (by decide +kernel), by decide +kernel⟩
theorem tw_165 : (Cond.instanceMethod (⟨"HeapSteps", "water", "(II)Z"⟩ : MethodName)) ∈ tb := List.mem_filter.mpr ⟨List.mem_of_getElem? (i := 165) (by decide +kernel), by decide +kernel⟩
theorem tw_166 : (Cond.selects "HeapSteps" (⟨"HeapSteps", "water", "(II)Z"⟩ : MethodName) (⟨"HeapSteps", "water", "(II)Z"⟩ : MethodName)) ∈ tb := List.mem_filter.mpr ⟨List.mem_of_getElem? (i := 166) (by decide +kernel), by decide +kernel⟩
theorem tw_167 : (Cond.code (⟨"HeapSteps", "water", "(II)Z"⟩ : MethodName) prog_1_method_3_code (3 : Nat) (Option.some FieldType.boolean)) ∈ tb := List.mem_filter.mpr ⟨List.mem_of_getElem? (i := 167) (by decide +kernel), by decide +kernel⟩
theorem tw_168 : (Cond.methodLink "HeapStepsLaw" (31 : Nat) (⟨"HeapSteps", "heat", "(II)Z"⟩ : MethodName)) ∈ tb := List.mem_filter.mpr ⟨List.mem_of_getElem? (i := 168) (by decide +kernel), by decide +kernel⟩
theorem tw_169 : (Cond.instanceMethod (⟨"HeapSteps", "heat", "(II)Z"⟩ : MethodName)) ∈ tb := List.mem_filter.mpr ⟨List.mem_of_getElem? (i := 169) (by decide +kernel), by decide +kernel⟩
theorem tw_170 : (Cond.selects "HeapSteps" (⟨"HeapSteps", "heat", "(II)Z"⟩ : MethodName) (⟨"HeapSteps", "heat", "(II)Z"⟩ : MethodName)) ∈ tb := List.mem_filter.mpr ⟨List.mem_of_getElem? (i := 170) (by decide +kernel), by decide +kernel⟩
theorem tw_171 : (Cond.code (⟨"HeapSteps", "heat", "(II)Z"⟩ : MethodName) prog_1_method_4_code (3 : Nat) (Option.some FieldType.boolean)) ∈ tb := List.mem_filter.mpr ⟨List.mem_of_getElem? (i := 171) (by decide +kernel), by decide +kernel⟩
theorem tw_172 : (Cond.constantLong "HeapSteps" (73 : Nat) (1000000000000000 : Int64)) ∈ tb := List.mem_filter.mpr ⟨List.mem_of_getElem? (i := 172) (by decide +kernel), by decide +kernel⟩
theorem tw_173 : (Cond.methodLink "HeapStepsLaw" (35 : Nat) (⟨"HeapSteps", "rate", "(III)Z"⟩ : MethodName)) ∈ tb := List.mem_filter.mpr ⟨List.mem_of_getElem? (i := 173) (by decide +kernel), by decide +kernel⟩
theorem tw_174 : (Cond.instanceMethod (⟨"HeapSteps", "rate", "(III)Z"⟩ : MethodName)) ∈ tb := List.mem_filter.mpr ⟨List.mem_of_getElem? (i := 174) (by decide +kernel), by decide +kernel⟩
theorem tw_175 : (Cond.selects "HeapSteps" (⟨"HeapSteps", "rate", "(III)Z"⟩ : MethodName) (⟨"HeapSteps", "rate", "(III)Z"⟩ : MethodName)) ∈ tb := List.mem_filter.mpr ⟨List.mem_of_getElem? (i := 175) (by decide +kernel), by decide +kernel⟩
theorem tw_176 : (Cond.code (⟨"HeapSteps", "rate", "(III)Z"⟩ : MethodName) prog_1_method_5_code (4 : Nat) (Option.some FieldType.boolean)) ∈ tb := List.mem_filter.mpr ⟨List.mem_of_getElem? (i := 176) (by decide +kernel), by decide +kernel⟩
theorem tw_177 : (Cond.constant "HeapSteps" (75 : Nat) (100000 : Int32)) ∈ tb := List.mem_filter.mpr ⟨List.mem_of_getElem? (i := 177) (by decide +kernel), by decide +kernel⟩
theorem tw_178 : (Cond.methodLink "HeapSteps" (76 : Nat) (⟨"HeapSteps$Kind", "addRow", "(II)Z"⟩ : MethodName)) ∈ tb := List.mem_filter.mpr ⟨List.mem_of_getElem? (i := 178) (by decide +kernel), by decide +kernel⟩
theorem tw_179 : (Cond.instanceMethod (⟨"HeapSteps$Kind", "addRow", "(II)Z"⟩ : MethodName)) ∈ tb := List.mem_filter.mpr ⟨List.mem_of_getElem? (i := 179) (by decide +kernel), by decide +kernel⟩
theorem tw_180 : (Cond.selects "HeapSteps$Kind" (⟨"HeapSteps$Kind", "addRow", "(II)Z"⟩ : MethodName) (⟨"HeapSteps$Kind", "addRow", "(II)Z"⟩ : MethodName)) ∈ tb := List.mem_filter.mpr ⟨List.mem_of_getElem? (i := 180) (by decide +kernel), by decide +kernel⟩
theorem tw_181 : (Cond.code (⟨"HeapSteps$Kind", "addRow", "(II)Z"⟩ : MethodName) prog_3_method_2_code (3 : Nat) (Option.some FieldType.boolean)) ∈ tb := List.mem_filter.mpr ⟨List.mem_of_getElem? (i := 181) (by decide +kernel), by decide +kernel⟩
theorem tw_182 : (Cond.methodLink "HeapStepsLaw" (39 : Nat) (⟨"HeapSteps", "yields", "(III)Z"⟩ : MethodName)) ∈ tb := List.mem_filter.mpr ⟨List.mem_of_getElem? (i := 182) (by decide +kernel), by decide +kernel⟩
theorem tw_183 : (Cond.instanceMethod (⟨"HeapSteps", "yields", "(III)Z"⟩ : MethodName)) ∈ tb := List.mem_filter.mpr ⟨List.mem_of_getElem? (i := 183) (by decide +kernel), by decide +kernel⟩
theorem tw_184 : (Cond.selects "HeapSteps" (⟨"HeapSteps", "yields", "(III)Z"⟩ : MethodName) (⟨"HeapSteps", "yields", "(III)Z"⟩ : MethodName)) ∈ tb := List.mem_filter.mpr ⟨List.mem_of_getElem? (i := 184) (by decide +kernel), by decide +kernel⟩
theorem tw_185 : (Cond.code (⟨"HeapSteps", "yields", "(III)Z"⟩ : MethodName) prog_1_method_6_code (4 : Nat) (Option.some FieldType.boolean)) ∈ tb := List.mem_filter.mpr ⟨List.mem_of_getElem? (i := 185) (by decide +kernel), by decide +kernel⟩
theorem tw_186 : (Cond.methodLink "HeapStepsLaw" (43 : Nat) (⟨"HeapSteps", "bounds", "(III)Z"⟩ : MethodName)) ∈ tb := List.mem_filter.mpr ⟨List.mem_of_getElem? (i := 186) (by decide +kernel), by decide +kernel⟩
theorem tw_187 : (Cond.instanceMethod (⟨"HeapSteps", "bounds", "(III)Z"⟩ : MethodName)) ∈ tb := List.mem_filter.mpr ⟨List.mem_of_getElem? (i := 187) (by decide +kernel), by decide +kernel⟩
theorem tw_188 : (Cond.selects "HeapSteps" (⟨"HeapSteps", "bounds", "(III)Z"⟩ : MethodName) (⟨"HeapSteps", "bounds", "(III)Z"⟩ : MethodName)) ∈ tb := List.mem_filter.mpr ⟨List.mem_of_getElem? (i := 188) (by decide +kernel), by decide +kernel⟩
theorem tw_189 : (Cond.code (⟨"HeapSteps", "bounds", "(III)Z"⟩ : MethodName) prog_1_method_7_code (5 : Nat) (Option.some FieldType.boolean)) ∈ tb := List.mem_filter.mpr ⟨List.mem_of_getElem? (i := 189) (by decide +kernel), by decide +kernel⟩
theorem tw_190 : (Cond.methodLink "HeapStepsLaw" (47 : Nat) (⟨"HeapSteps", "rain", "(I)Z"⟩ : MethodName)) ∈ tb := List.mem_filter.mpr ⟨List.mem_of_getElem? (i := 190) (by decide +kernel), by decide +kernel⟩
theorem tw_191 : (Cond.instanceMethod (⟨"HeapSteps", "rain", "(I)Z"⟩ : MethodName)) ∈ tb := List.mem_filter.mpr ⟨List.mem_of_getElem? (i := 191) (by decide +kernel), by decide +kernel⟩
theorem tw_192 : (Cond.selects "HeapSteps" (⟨"HeapSteps", "rain", "(I)Z"⟩ : MethodName) (⟨"HeapSteps", "rain", "(I)Z"⟩ : MethodName)) ∈ tb := List.mem_filter.mpr ⟨List.mem_of_getElem? (i := 192) (by decide +kernel), by decide +kernel⟩
theorem tw_193 : (Cond.code (⟨"HeapSteps", "rain", "(I)Z"⟩ : MethodName) prog_1_method_8_code (2 : Nat) (Option.some FieldType.boolean)) ∈ tb := List.mem_filter.mpr ⟨List.mem_of_getElem? (i := 193) (by decide +kernel), by decide +kernel⟩
theorem tw_194 : (Cond.methodLink "HeapStepsLaw" (52 : Nat) (⟨"HeapSteps", "loss", "(I)Z"⟩ : MethodName)) ∈ tb := List.mem_filter.mpr ⟨List.mem_of_getElem? (i := 194) (by decide +kernel), by decide +kernel⟩
theorem tw_195 : (Cond.instanceMethod (⟨"HeapSteps", "loss", "(I)Z"⟩ : MethodName)) ∈ tb := List.mem_filter.mpr ⟨List.mem_of_getElem? (i := 195) (by decide +kernel), by decide +kernel⟩
theorem tw_196 : (Cond.selects "HeapSteps" (⟨"HeapSteps", "loss", "(I)Z"⟩ : MethodName) (⟨"HeapSteps", "loss", "(I)Z"⟩ : MethodName)) ∈ tb := List.mem_filter.mpr ⟨List.mem_of_getElem? (i := 196) (by decide +kernel), by decide +kernel⟩
theorem tw_197 : (Cond.code (⟨"HeapSteps", "loss", "(I)Z"⟩ : MethodName) prog_1_method_9_code (2 : Nat) (Option.some FieldType.boolean)) ∈ tb := List.mem_filter.mpr ⟨List.mem_of_getElem? (i := 197) (by decide +kernel), by decide +kernel⟩
theorem tw_198 : (Cond.methodLink "HeapStepsLaw" (56 : Nat) (⟨"HeapSteps", "fan", "(III)Z"⟩ : MethodName)) ∈ tb := List.mem_filter.mpr ⟨List.mem_of_getElem? (i := 198) (by decide +kernel), by decide +kernel⟩
theorem tw_199 : (Cond.instanceMethod (⟨"HeapSteps", "fan", "(III)Z"⟩ : MethodName)) ∈ tb := List.mem_filter.mpr ⟨List.mem_of_getElem? (i := 199) (by decide +kernel), by decide +kernel⟩
theorem tw_200 : (Cond.selects "HeapSteps" (⟨"HeapSteps", "fan", "(III)Z"⟩ : MethodName) (⟨"HeapSteps", "fan", "(III)Z"⟩ : MethodName)) ∈ tb := List.mem_filter.mpr ⟨List.mem_of_getElem? (i := 200) (by decide +kernel), by decide +kernel⟩
theorem tw_201 : (Cond.code (⟨"HeapSteps", "fan", "(III)Z"⟩ : MethodName) prog_1_method_10_code (4 : Nat) (Option.some FieldType.boolean)) ∈ tb := List.mem_filter.mpr ⟨List.mem_of_getElem? (i := 201) (by decide +kernel), by decide +kernel⟩
theorem tw_202 : (Cond.methodLink "HeapSteps" (92 : Nat) (⟨"HeapSteps$Fan", "tell", "(III)V"⟩ : MethodName)) ∈ tb := List.mem_filter.mpr ⟨List.mem_of_getElem? (i := 202) (by decide +kernel), by decide +kernel⟩
theorem tw_203 : (Cond.instanceMethod (⟨"HeapSteps$Fan", "tell", "(III)V"⟩ : MethodName)) ∈ tb := List.mem_filter.mpr ⟨List.mem_of_getElem? (i := 203) (by decide +kernel), by decide +kernel⟩
theorem tw_204 : (Cond.selects "HeapSteps$Fan" (⟨"HeapSteps$Fan", "tell", "(III)V"⟩ : MethodName) (⟨"HeapSteps$Fan", "tell", "(III)V"⟩ : MethodName)) ∈ tb := List.mem_filter.mpr ⟨List.mem_of_getElem? (i := 204) (by decide +kernel), by decide +kernel⟩
theorem tw_205 : (Cond.code (⟨"HeapSteps$Fan", "tell", "(III)V"⟩ : MethodName) prog_2_method_2_code (4 : Nat) (Option.none : Option FieldType)) ∈ tb := List.mem_filter.mpr ⟨List.mem_of_getElem? (i := 205) (by decide +kernel), by decide +kernel⟩
theorem tw_206 : (Cond.methodLink "HeapStepsLaw" (60 : Nat) (⟨"HeapSteps", "limit", "(I)Z"⟩ : MethodName)) ∈ tb := List.mem_filter.mpr ⟨List.mem_of_getElem? (i := 206) (by decide +kernel), by decide +kernel⟩
theorem tw_207 : (Cond.instanceMethod (⟨"HeapSteps", "limit", "(I)Z"⟩ : MethodName)) ∈ tb := List.mem_filter.mpr ⟨List.mem_of_getElem? (i := 207) (by decide +kernel), by decide +kernel⟩
theorem tw_208 : (Cond.selects "HeapSteps" (⟨"HeapSteps", "limit", "(I)Z"⟩ : MethodName) (⟨"HeapSteps", "limit", "(I)Z"⟩ : MethodName)) ∈ tb := List.mem_filter.mpr ⟨List.mem_of_getElem? (i := 208) (by decide +kernel), by decide +kernel⟩
theorem tw_209 : (Cond.code (⟨"HeapSteps", "limit", "(I)Z"⟩ : MethodName) prog_1_method_11_code (2 : Nat) (Option.some FieldType.boolean)) ∈ tb := List.mem_filter.mpr ⟨List.mem_of_getElem? (i := 209) (by decide +kernel), by decide +kernel⟩
theorem tw_210 : (Cond.methodLink "HeapStepsLaw" (64 : Nat) (⟨"HeapSteps", "run", "(I)I"⟩ : MethodName)) ∈ tb := List.mem_filter.mpr ⟨List.mem_of_getElem? (i := 210) (by decide +kernel), by decide +kernel⟩
theorem tw_211 : (Cond.instanceMethod (⟨"HeapSteps", "run", "(I)I"⟩ : MethodName)) ∈ tb := List.mem_filter.mpr ⟨List.mem_of_getElem? (i := 211) (by decide +kernel), by decide +kernel⟩
theorem tw_212 : (Cond.selects "HeapSteps" (⟨"HeapSteps", "run", "(I)I"⟩ : MethodName) (⟨"HeapSteps", "run", "(I)I"⟩ : MethodName)) ∈ tb := List.mem_filter.mpr ⟨List.mem_of_getElem? (i := 212) (by decide +kernel), by decide +kernel⟩
theorem tw_213 : (Cond.code (⟨"HeapSteps", "run", "(I)I"⟩ : MethodName) prog_1_method_12_code (3 : Nat) (Option.some FieldType.int)) ∈ tb := List.mem_filter.mpr ⟨List.mem_of_getElem? (i := 213) (by decide +kernel), by decide +kernel⟩
theorem tw_214 : (Cond.constantLong "HeapSteps" (96 : Nat) (20000 : Int64)) ∈ tb := List.mem_filter.mpr ⟨List.mem_of_getElem? (i := 214) (by decide +kernel), by decide +kernel⟩
theorem tw_215 : (Cond.methodLink "HeapSteps" (98 : Nat) (⟨"HeapSteps", "greatestWarmth", "()J"⟩ : MethodName)) ∈ tb := List.mem_filter.mpr ⟨List.mem_of_getElem? (i := 215) (by decide +kernel), by decide +kernel⟩
theorem tw_217 : (Cond.instanceMethod (⟨"HeapSteps", "greatestWarmth", "()J"⟩ : MethodName)) ∈ tb := List.mem_filter.mpr ⟨List.mem_of_getElem? (i := 217) (by decide +kernel), by decide +kernel⟩
theorem tw_218 : (Cond.code (⟨"HeapSteps", "greatestWarmth", "()J"⟩ : MethodName) prog_1_method_27_code (7 : Nat) (Option.some FieldType.long)) ∈ tb := List.mem_filter.mpr ⟨List.mem_of_getElem? (i := 218) (by decide +kernel), by decide +kernel⟩
theorem tw_219 : (Cond.methodLink "HeapSteps" (110 : Nat) (⟨"HeapSteps$Layer", "warmthNow", "()J"⟩ : MethodName)) ∈ tb := List.mem_filter.mpr ⟨List.mem_of_getElem? (i := 219) (by decide +kernel), by decide +kernel⟩
theorem tw_220 : (Cond.instanceMethod (⟨"HeapSteps$Layer", "warmthNow", "()J"⟩ : MethodName)) ∈ tb := List.mem_filter.mpr ⟨List.mem_of_getElem? (i := 220) (by decide +kernel), by decide +kernel⟩
theorem tw_221 : (Cond.selects "HeapSteps$Layer" (⟨"HeapSteps$Layer", "warmthNow", "()J"⟩ : MethodName) (⟨"HeapSteps$Layer", "warmthNow", "()J"⟩ : MethodName)) ∈ tb := List.mem_filter.mpr ⟨List.mem_of_getElem? (i := 221) (by decide +kernel), by decide +kernel⟩
theorem tw_222 : (Cond.code (⟨"HeapSteps$Layer", "warmthNow", "()J"⟩ : MethodName) prog_4_method_3_code (3 : Nat) (Option.some FieldType.long)) ∈ tb := List.mem_filter.mpr ⟨List.mem_of_getElem? (i := 222) (by decide +kernel), by decide +kernel⟩
theorem tw_223 : (Cond.methodLink "HeapSteps$Layer" (23 : Nat) (⟨"HeapSteps$Layer", "mass", "()J"⟩ : MethodName)) ∈ tb := List.mem_filter.mpr ⟨List.mem_of_getElem? (i := 223) (by decide +kernel), by decide +kernel⟩
theorem tw_224 : (Cond.instanceMethod (⟨"HeapSteps$Layer", "mass", "()J"⟩ : MethodName)) ∈ tb := List.mem_filter.mpr ⟨List.mem_of_getElem? (i := 224) (by decide +kernel), by decide +kernel⟩
theorem tw_225 : (Cond.selects "HeapSteps$Layer" (⟨"HeapSteps$Layer", "mass", "()J"⟩ : MethodName) (⟨"HeapSteps$Layer", "mass", "()J"⟩ : MethodName)) ∈ tb := List.mem_filter.mpr ⟨List.mem_of_getElem? (i := 225) (by decide +kernel), by decide +kernel⟩
theorem tw_226 : (Cond.code (⟨"HeapSteps$Layer", "mass", "()J"⟩ : MethodName) prog_4_method_2_code (4 : Nat) (Option.some FieldType.long)) ∈ tb := List.mem_filter.mpr ⟨List.mem_of_getElem? (i := 226) (by decide +kernel), by decide +kernel⟩
theorem tw_227 : (Cond.methodLink "HeapSteps" (135 : Nat) (⟨"java/lang/Math", "max", "(JJ)J"⟩ : MethodName)) ∈ tb := List.mem_filter.mpr ⟨List.mem_of_getElem? (i := 227) (by decide +kernel), by decide +kernel⟩
theorem tw_228 : (Cond.static (⟨"java/lang/Math", "max", "(JJ)J"⟩ : MethodName)) ∈ tb := List.mem_filter.mpr ⟨List.mem_of_getElem? (i := 228) (by decide +kernel), by decide +kernel⟩
theorem tw_229 : (Cond.code (⟨"java/lang/Math", "max", "(JJ)J"⟩ : MethodName) prog_7_method_66_code (4 : Nat) (Option.some FieldType.long)) ∈ tb := List.mem_filter.mpr ⟨List.mem_of_getElem? (i := 229) (by decide +kernel), by decide +kernel⟩
theorem tw_230 : (Cond.methodLink "HeapSteps" (102 : Nat) (⟨"HeapSteps", "passMinute", "()V"⟩ : MethodName)) ∈ tb := List.mem_filter.mpr ⟨List.mem_of_getElem? (i := 230) (by decide +kernel), by decide +kernel⟩
theorem tw_232 : (Cond.instanceMethod (⟨"HeapSteps", "passMinute", "()V"⟩ : MethodName)) ∈ tb := List.mem_filter.mpr ⟨List.mem_of_getElem? (i := 232) (by decide +kernel), by decide +kernel⟩
theorem tw_233 : (Cond.code (⟨"HeapSteps", "passMinute", "()V"⟩ : MethodName) prog_1_method_28_code (3 : Nat) (Option.none : Option FieldType)) ∈ tb := List.mem_filter.mpr ⟨List.mem_of_getElem? (i := 233) (by decide +kernel), by decide +kernel⟩
theorem tw_234 : (Cond.methodLink "HeapSteps" (138 : Nat) (⟨"HeapSteps", "pour", "(JI)V"⟩ : MethodName)) ∈ tb := List.mem_filter.mpr ⟨List.mem_of_getElem? (i := 234) (by decide +kernel), by decide +kernel⟩
theorem tw_236 : (Cond.instanceMethod (⟨"HeapSteps", "pour", "(JI)V"⟩ : MethodName)) ∈ tb := List.mem_filter.mpr ⟨List.mem_of_getElem? (i := 236) (by decide +kernel), by decide +kernel⟩
theorem tw_237 : (Cond.code (⟨"HeapSteps", "pour", "(JI)V"⟩ : MethodName) prog_1_method_29_code (5 : Nat) (Option.none : Option FieldType)) ∈ tb := List.mem_filter.mpr ⟨List.mem_of_getElem? (i := 237) (by decide +kernel), by decide +kernel⟩
theorem tw_238 : (Cond.methodLink "HeapSteps" (142 : Nat) (⟨"HeapSteps", "breakParts", "(LHeapSteps$Layer;)V"⟩ : MethodName)) ∈ tb := List.mem_filter.mpr ⟨List.mem_of_getElem? (i := 238) (by decide +kernel), by decide +kernel⟩
theorem tw_240 : (Cond.instanceMethod (⟨"HeapSteps", "breakParts", "(LHeapSteps$Layer;)V"⟩ : MethodName)) ∈ tb := List.mem_filter.mpr ⟨List.mem_of_getElem? (i := 240) (by decide +kernel), by decide +kernel⟩
theorem tw_241 : (Cond.code (⟨"HeapSteps", "breakParts", "(LHeapSteps$Layer;)V"⟩ : MethodName) prog_1_method_30_code (5 : Nat) (Option.none : Option FieldType)) ∈ tb := List.mem_filter.mpr ⟨List.mem_of_getElem? (i := 241) (by decide +kernel), by decide +kernel⟩
theorem tw_242 : (Cond.methodLink "HeapSteps" (159 : Nat) (⟨"HeapSteps", "breakPart", "(LHeapSteps$Layer;IJ)V"⟩ : MethodName)) ∈ tb := List.mem_filter.mpr ⟨List.mem_of_getElem? (i := 242) (by decide +kernel), by decide +kernel⟩
theorem tw_244 : (Cond.instanceMethod (⟨"HeapSteps", "breakPart", "(LHeapSteps$Layer;IJ)V"⟩ : MethodName)) ∈ tb := List.mem_filter.mpr ⟨List.mem_of_getElem? (i := 244) (by decide +kernel), by decide +kernel⟩
theorem tw_245 : (Cond.code (⟨"HeapSteps", "breakPart", "(LHeapSteps$Layer;IJ)V"⟩ : MethodName) prog_1_method_31_code (12 : Nat) (Option.none : Option FieldType)) ∈ tb := List.mem_filter.mpr ⟨List.mem_of_getElem? (i := 245) (by decide +kernel), by decide +kernel⟩
theorem tw_246 : (Cond.methodLink "HeapSteps" (163 : Nat) (⟨"HeapSteps$Kind", "millionthsAt", "(J)I"⟩ : MethodName)) ∈ tb := List.mem_filter.mpr ⟨List.mem_of_getElem? (i := 246) (by decide +kernel), by decide +kernel⟩
theorem tw_247 : (Cond.instanceMethod (⟨"HeapSteps$Kind", "millionthsAt", "(J)I"⟩ : MethodName)) ∈ tb := List.mem_filter.mpr ⟨List.mem_of_getElem? (i := 247) (by decide +kernel), by decide +kernel⟩
theorem tw_248 : (Cond.selects "HeapSteps$Kind" (⟨"HeapSteps$Kind", "millionthsAt", "(J)I"⟩ : MethodName) (⟨"HeapSteps$Kind", "millionthsAt", "(J)I"⟩ : MethodName)) ∈ tb := List.mem_filter.mpr ⟨List.mem_of_getElem? (i := 248) (by decide +kernel), by decide +kernel⟩
theorem tw_249 : (Cond.code (⟨"HeapSteps$Kind", "millionthsAt", "(J)I"⟩ : MethodName) prog_3_method_3_code (5 : Nat) (Option.some FieldType.int)) ∈ tb := List.mem_filter.mpr ⟨List.mem_of_getElem? (i := 249) (by decide +kernel), by decide +kernel⟩
theorem tw_250 : (Cond.methodLink "HeapSteps" (167 : Nat) (⟨"HeapSteps", "millionthsOf", "(JJ)J"⟩ : MethodName)) ∈ tb := List.mem_filter.mpr ⟨List.mem_of_getElem? (i := 250) (by decide +kernel), by decide +kernel⟩
theorem tw_251 : (Cond.static (⟨"HeapSteps", "millionthsOf", "(JJ)J"⟩ : MethodName)) ∈ tb := List.mem_filter.mpr ⟨List.mem_of_getElem? (i := 251) (by decide +kernel), by decide +kernel⟩
theorem tw_252 : (Cond.code (⟨"HeapSteps", "millionthsOf", "(JJ)J"⟩ : MethodName) prog_1_method_23_code (4 : Nat) (Option.some FieldType.long)) ∈ tb := List.mem_filter.mpr ⟨List.mem_of_getElem? (i := 252) (by decide +kernel), by decide +kernel⟩
theorem tw_253 : (Cond.constantLong "HeapSteps" (127 : Nat) (1000000 : Int64)) ∈ tb := List.mem_filter.mpr ⟨List.mem_of_getElem? (i := 253) (by decide +kernel), by decide +kernel⟩
theorem tw_254 : (Cond.constantLong "HeapSteps" (170 : Nat) (1000 : Int64)) ∈ tb := List.mem_filter.mpr ⟨List.mem_of_getElem? (i := 254) (by decide +kernel), by decide +kernel⟩
theorem tw_255 : (Cond.methodLink "HeapSteps" (146 : Nat) (⟨"HeapSteps", "loseHeat", "(LHeapSteps$Layer;)V"⟩ : MethodName)) ∈ tb := List.mem_filter.mpr ⟨List.mem_of_getElem? (i := 255) (by decide +kernel), by decide +kernel⟩
theorem tw_257 : (Cond.instanceMethod (⟨"HeapSteps", "loseHeat", "(LHeapSteps$Layer;)V"⟩ : MethodName)) ∈ tb := List.mem_filter.mpr ⟨List.mem_of_getElem? (i := 257) (by decide +kernel), by decide +kernel⟩
theorem tw_258 : (Cond.code (⟨"HeapSteps", "loseHeat", "(LHeapSteps$Layer;)V"⟩ : MethodName) prog_1_method_32_code (4 : Nat) (Option.none : Option FieldType)) ∈ tb := List.mem_filter.mpr ⟨List.mem_of_getElem? (i := 258) (by decide +kernel), by decide +kernel⟩
theorem tw_259 : (Cond.methodLink "HeapSteps" (149 : Nat) (⟨"HeapSteps", "driveOff", "(LHeapSteps$Layer;)V"⟩ : MethodName)) ∈ tb := List.mem_filter.mpr ⟨List.mem_of_getElem? (i := 259) (by decide +kernel), by decide +kernel⟩
theorem tw_261 : (Cond.instanceMethod (⟨"HeapSteps", "driveOff", "(LHeapSteps$Layer;)V"⟩ : MethodName)) ∈ tb := List.mem_filter.mpr ⟨List.mem_of_getElem? (i := 261) (by decide +kernel), by decide +kernel⟩
theorem tw_262 : (Cond.code (⟨"HeapSteps", "driveOff", "(LHeapSteps$Layer;)V"⟩ : MethodName) prog_1_method_33_code (6 : Nat) (Option.none : Option FieldType)) ∈ tb := List.mem_filter.mpr ⟨List.mem_of_getElem? (i := 262) (by decide +kernel), by decide +kernel⟩
theorem tw_263 : (Cond.constantLong "HeapSteps" (172 : Nat) (600 : Int64)) ∈ tb := List.mem_filter.mpr ⟨List.mem_of_getElem? (i := 263) (by decide +kernel), by decide +kernel⟩
theorem tw_264 : (Cond.methodLink "HeapSteps" (129 : Nat) (⟨"java/lang/Math", "min", "(JJ)J"⟩ : MethodName)) ∈ tb := List.mem_filter.mpr ⟨List.mem_of_getElem? (i := 264) (by decide +kernel), by decide +kernel⟩
theorem tw_265 : (Cond.static (⟨"java/lang/Math", "min", "(JJ)J"⟩ : MethodName)) ∈ tb := List.mem_filter.mpr ⟨List.mem_of_getElem? (i := 265) (by decide +kernel), by decide +kernel⟩
theorem tw_266 : (Cond.code (⟨"java/lang/Math", "min", "(JJ)J"⟩ : MethodName) prog_7_method_70_code (4 : Nat) (Option.some FieldType.long)) ∈ tb := List.mem_filter.mpr ⟨List.mem_of_getElem? (i := 266) (by decide +kernel), by decide +kernel⟩
theorem tw_267 : (Cond.methodLink "HeapSteps" (152 : Nat) (⟨"HeapSteps$Layer", "takeSurplus", "()J"⟩ : MethodName)) ∈ tb := List.mem_filter.mpr ⟨List.mem_of_getElem? (i := 267) (by decide +kernel), by decide +kernel⟩
theorem tw_268 : (Cond.instanceMethod (⟨"HeapSteps$Layer", "takeSurplus", "()J"⟩ : MethodName)) ∈ tb := List.mem_filter.mpr ⟨List.mem_of_getElem? (i := 268) (by decide +kernel), by decide +kernel⟩
theorem tw_269 : (Cond.selects "HeapSteps$Layer" (⟨"HeapSteps$Layer", "takeSurplus", "()J"⟩ : MethodName) (⟨"HeapSteps$Layer", "takeSurplus", "()J"⟩ : MethodName)) ∈ tb := List.mem_filter.mpr ⟨List.mem_of_getElem? (i := 269) (by decide +kernel), by decide +kernel⟩
theorem tw_270 : (Cond.code (⟨"HeapSteps$Layer", "takeSurplus", "()J"⟩ : MethodName) prog_4_method_4_code (3 : Nat) (Option.some FieldType.long)) ∈ tb := List.mem_filter.mpr ⟨List.mem_of_getElem? (i := 270) (by decide +kernel), by decide +kernel⟩
theorem tw_271 : (Cond.methodLink "HeapSteps$Layer" (27 : Nat) (⟨"java/lang/Math", "max", "(JJ)J"⟩ : MethodName)) ∈ tb := List.mem_filter.mpr ⟨List.mem_of_getElem? (i := 271) (by decide +kernel), by decide +kernel⟩
theorem tw_272 : (Cond.methodLink "HeapSteps" (155 : Nat) (⟨"HeapSteps$Fan", "adjust", "(J)V"⟩ : MethodName)) ∈ tb := List.mem_filter.mpr ⟨List.mem_of_getElem? (i := 272) (by decide +kernel), by decide +kernel⟩
theorem tw_273 : (Cond.instanceMethod (⟨"HeapSteps$Fan", "adjust", "(J)V"⟩ : MethodName)) ∈ tb := List.mem_filter.mpr ⟨List.mem_of_getElem? (i := 273) (by decide +kernel), by decide +kernel⟩
theorem tw_274 : (Cond.selects "HeapSteps$Fan" (⟨"HeapSteps$Fan", "adjust", "(J)V"⟩ : MethodName) (⟨"HeapSteps$Fan", "adjust", "(J)V"⟩ : MethodName)) ∈ tb := List.mem_filter.mpr ⟨List.mem_of_getElem? (i := 274) (by decide +kernel), by decide +kernel⟩
theorem tw_275 : (Cond.code (⟨"HeapSteps$Fan", "adjust", "(J)V"⟩ : MethodName) prog_2_method_3_code (5 : Nat) (Option.none : Option FieldType)) ∈ tb := List.mem_filter.mpr ⟨List.mem_of_getElem? (i := 275) (by decide +kernel), by decide +kernel⟩
theorem tw_276 : (Cond.constantLong "HeapSteps$Fan" (32 : Nat) (-1000000000 : Int64)) ∈ tb := List.mem_filter.mpr ⟨List.mem_of_getElem? (i := 276) (by decide +kernel), by decide +kernel⟩
theorem tw_277 : (Cond.constantLong "HeapSteps$Fan" (34 : Nat) (1000000000 : Int64)) ∈ tb := List.mem_filter.mpr ⟨List.mem_of_getElem? (i := 277) (by decide +kernel), by decide +kernel⟩
theorem tn_278 : (Cond.methodLinkNest "HeapSteps$Fan" (36 : Nat) (⟨"HeapSteps", "cut", "(JJJ)J"⟩ : MethodName) "HeapSteps") ∈ lw_tbl := List.mem_of_getElem? (i := 278) (by decide +kernel)
theorem tw_279 : (Cond.static (⟨"HeapSteps", "cut", "(JJJ)J"⟩ : MethodName)) ∈ tb := List.mem_filter.mpr ⟨List.mem_of_getElem? (i := 279) (by decide +kernel), by decide +kernel⟩
theorem tw_280 : (Cond.code (⟨"HeapSteps", "cut", "(JJJ)J"⟩ : MethodName) prog_1_method_24_code (6 : Nat) (Option.some FieldType.long)) ∈ tb := List.mem_filter.mpr ⟨List.mem_of_getElem? (i := 280) (by decide +kernel), by decide +kernel⟩
theorem tw_281 : (Cond.constantLong "HeapSteps$Fan" (40 : Nat) (1000 : Int64)) ∈ tb := List.mem_filter.mpr ⟨List.mem_of_getElem? (i := 281) (by decide +kernel), by decide +kernel⟩
theorem tw_282 : (Cond.methodLink "HeapSteps$Fan" (42 : Nat) (⟨"java/lang/Math", "floorDiv", "(JJ)J"⟩ : MethodName)) ∈ tb := List.mem_filter.mpr ⟨List.mem_of_getElem? (i := 282) (by decide +kernel), by decide +kernel⟩
theorem tw_283 : (Cond.static (⟨"java/lang/Math", "floorDiv", "(JJ)J"⟩ : MethodName)) ∈ tb := List.mem_filter.mpr ⟨List.mem_of_getElem? (i := 283) (by decide +kernel), by decide +kernel⟩
theorem tw_284 : (Cond.code (⟨"java/lang/Math", "floorDiv", "(JJ)J"⟩ : MethodName) prog_7_method_49_code (6 : Nat) (Option.some FieldType.long)) ∈ tb := List.mem_filter.mpr ⟨List.mem_of_getElem? (i := 284) (by decide +kernel), by decide +kernel⟩
theorem tw_285 : (Cond.methodLink "HeapStepsLaw" (69 : Nat) (⟨"HeapSteps", "left", "(II)J"⟩ : MethodName)) ∈ tb := List.mem_filter.mpr ⟨List.mem_of_getElem? (i := 285) (by decide +kernel), by decide +kernel⟩
theorem tw_286 : (Cond.instanceMethod (⟨"HeapSteps", "left", "(II)J"⟩ : MethodName)) ∈ tb := List.mem_filter.mpr ⟨List.mem_of_getElem? (i := 286) (by decide +kernel), by decide +kernel⟩
theorem tw_287 : (Cond.selects "HeapSteps" (⟨"HeapSteps", "left", "(II)J"⟩ : MethodName) (⟨"HeapSteps", "left", "(II)J"⟩ : MethodName)) ∈ tb := List.mem_filter.mpr ⟨List.mem_of_getElem? (i := 287) (by decide +kernel), by decide +kernel⟩
theorem tw_288 : (Cond.code (⟨"HeapSteps", "left", "(II)J"⟩ : MethodName) prog_1_method_13_code (4 : Nat) (Option.some FieldType.long)) ∈ tb := List.mem_filter.mpr ⟨List.mem_of_getElem? (i := 288) (by decide +kernel), by decide +kernel⟩
theorem tw_289 : (Cond.constantLong "HeapSteps" (105 : Nat) (-1 : Int64)) ∈ tb := List.mem_filter.mpr ⟨List.mem_of_getElem? (i := 289) (by decide +kernel), by decide +kernel⟩
theorem tw_290 : (Cond.methodLink "HeapStepsLaw" (74 : Nat) (⟨"HeapSteps", "wet", "(I)J"⟩ : MethodName)) ∈ tb := List.mem_filter.mpr ⟨List.mem_of_getElem? (i := 290) (by decide +kernel), by decide +kernel⟩
theorem tw_291 : (Cond.instanceMethod (⟨"HeapSteps", "wet", "(I)J"⟩ : MethodName)) ∈ tb := List.mem_filter.mpr ⟨List.mem_of_getElem? (i := 291) (by decide +kernel), by decide +kernel⟩
theorem tw_292 : (Cond.selects "HeapSteps" (⟨"HeapSteps", "wet", "(I)J"⟩ : MethodName) (⟨"HeapSteps", "wet", "(I)J"⟩ : MethodName)) ∈ tb := List.mem_filter.mpr ⟨List.mem_of_getElem? (i := 292) (by decide +kernel), by decide +kernel⟩
theorem tw_293 : (Cond.code (⟨"HeapSteps", "wet", "(I)J"⟩ : MethodName) prog_1_method_14_code (3 : Nat) (Option.some FieldType.long)) ∈ tb := List.mem_filter.mpr ⟨List.mem_of_getElem? (i := 293) (by decide +kernel), by decide +kernel⟩
theorem tw_294 : (Cond.methodLink "HeapStepsLaw" (79 : Nat) (⟨"HeapSteps", "warmth", "(I)J"⟩ : MethodName)) ∈ tb := List.mem_filter.mpr ⟨List.mem_of_getElem? (i := 294) (by decide +kernel), by decide +kernel⟩
theorem tw_295 : (Cond.instanceMethod (⟨"HeapSteps", "warmth", "(I)J"⟩ : MethodName)) ∈ tb := List.mem_filter.mpr ⟨List.mem_of_getElem? (i := 295) (by decide +kernel), by decide +kernel⟩
theorem tw_296 : (Cond.selects "HeapSteps" (⟨"HeapSteps", "warmth", "(I)J"⟩ : MethodName) (⟨"HeapSteps", "warmth", "(I)J"⟩ : MethodName)) ∈ tb := List.mem_filter.mpr ⟨List.mem_of_getElem? (i := 296) (by decide +kernel), by decide +kernel⟩
theorem tw_297 : (Cond.code (⟨"HeapSteps", "warmth", "(I)J"⟩ : MethodName) prog_1_method_15_code (3 : Nat) (Option.some FieldType.long)) ∈ tb := List.mem_filter.mpr ⟨List.mem_of_getElem? (i := 297) (by decide +kernel), by decide +kernel⟩
theorem tw_298 : (Cond.methodLink "HeapStepsLaw" (83 : Nat) (⟨"HeapSteps", "air", "()I"⟩ : MethodName)) ∈ tb := List.mem_filter.mpr ⟨List.mem_of_getElem? (i := 298) (by decide +kernel), by decide +kernel⟩
theorem tw_299 : (Cond.instanceMethod (⟨"HeapSteps", "air", "()I"⟩ : MethodName)) ∈ tb := List.mem_filter.mpr ⟨List.mem_of_getElem? (i := 299) (by decide +kernel), by decide +kernel⟩
theorem tw_300 : (Cond.selects "HeapSteps" (⟨"HeapSteps", "air", "()I"⟩ : MethodName) (⟨"HeapSteps", "air", "()I"⟩ : MethodName)) ∈ tb := List.mem_filter.mpr ⟨List.mem_of_getElem? (i := 300) (by decide +kernel), by decide +kernel⟩
theorem tw_301 : (Cond.code (⟨"HeapSteps", "air", "()I"⟩ : MethodName) prog_1_method_16_code (1 : Nat) (Option.some FieldType.int)) ∈ tb := List.mem_filter.mpr ⟨List.mem_of_getElem? (i := 301) (by decide +kernel), by decide +kernel⟩
theorem tw_302 : (Cond.methodLink "HeapStepsLaw" (88 : Nat) (⟨"HeapSteps", "turn", "()I"⟩ : MethodName)) ∈ tb := List.mem_filter.mpr ⟨List.mem_of_getElem? (i := 302) (by decide +kernel), by decide +kernel⟩
theorem tw_303 : (Cond.instanceMethod (⟨"HeapSteps", "turn", "()I"⟩ : MethodName)) ∈ tb := List.mem_filter.mpr ⟨List.mem_of_getElem? (i := 303) (by decide +kernel), by decide +kernel⟩
theorem tw_304 : (Cond.selects "HeapSteps" (⟨"HeapSteps", "turn", "()I"⟩ : MethodName) (⟨"HeapSteps", "turn", "()I"⟩ : MethodName)) ∈ tb := List.mem_filter.mpr ⟨List.mem_of_getElem? (i := 304) (by decide +kernel), by decide +kernel⟩
theorem tw_305 : (Cond.code (⟨"HeapSteps", "turn", "()I"⟩ : MethodName) prog_1_method_17_code (2 : Nat) (Option.some FieldType.int)) ∈ tb := List.mem_filter.mpr ⟨List.mem_of_getElem? (i := 305) (by decide +kernel), by decide +kernel⟩
theorem tw_306 : (Cond.methodLink "HeapSteps" (116 : Nat) (⟨"HeapSteps", "shareOut", "(I)V"⟩ : MethodName)) ∈ tb := List.mem_filter.mpr ⟨List.mem_of_getElem? (i := 306) (by decide +kernel), by decide +kernel⟩
theorem tw_308 : (Cond.instanceMethod (⟨"HeapSteps", "shareOut", "(I)V"⟩ : MethodName)) ∈ tb := List.mem_filter.mpr ⟨List.mem_of_getElem? (i := 308) (by decide +kernel), by decide +kernel⟩
theorem tw_309 : (Cond.code (⟨"HeapSteps", "shareOut", "(I)V"⟩ : MethodName) prog_1_method_35_code (10 : Nat) (Option.none : Option FieldType)) ∈ tb := List.mem_filter.mpr ⟨List.mem_of_getElem? (i := 309) (by decide +kernel), by decide +kernel⟩
theorem tw_310 : (Cond.methodLink "HeapSteps" (174 : Nat) (⟨"HeapSteps", "inAllLayers", "(I)J"⟩ : MethodName)) ∈ tb := List.mem_filter.mpr ⟨List.mem_of_getElem? (i := 310) (by decide +kernel), by decide +kernel⟩
theorem tw_312 : (Cond.instanceMethod (⟨"HeapSteps", "inAllLayers", "(I)J"⟩ : MethodName)) ∈ tb := List.mem_filter.mpr ⟨List.mem_of_getElem? (i := 312) (by decide +kernel), by decide +kernel⟩
theorem tw_313 : (Cond.code (⟨"HeapSteps", "inAllLayers", "(I)J"⟩ : MethodName) prog_1_method_34_code (8 : Nat) (Option.some FieldType.long)) ∈ tb := List.mem_filter.mpr ⟨List.mem_of_getElem? (i := 313) (by decide +kernel), by decide +kernel⟩
theorem tw_314 : (Cond.methodLink "HeapStepsLaw" (92 : Nat) (⟨"HeapSteps", "gone", "(I)J"⟩ : MethodName)) ∈ tb := List.mem_filter.mpr ⟨List.mem_of_getElem? (i := 314) (by decide +kernel), by decide +kernel⟩
theorem tw_315 : (Cond.instanceMethod (⟨"HeapSteps", "gone", "(I)J"⟩ : MethodName)) ∈ tb := List.mem_filter.mpr ⟨List.mem_of_getElem? (i := 315) (by decide +kernel), by decide +kernel⟩
theorem tw_316 : (Cond.selects "HeapSteps" (⟨"HeapSteps", "gone", "(I)J"⟩ : MethodName) (⟨"HeapSteps", "gone", "(I)J"⟩ : MethodName)) ∈ tb := List.mem_filter.mpr ⟨List.mem_of_getElem? (i := 316) (by decide +kernel), by decide +kernel⟩
theorem tw_317 : (Cond.code (⟨"HeapSteps", "gone", "(I)J"⟩ : MethodName) prog_1_method_18_code (2 : Nat) (Option.some FieldType.long)) ∈ tb := List.mem_filter.mpr ⟨List.mem_of_getElem? (i := 317) (by decide +kernel), by decide +kernel⟩
theorem tw_318 : (Cond.methodLink "HeapStepsLaw" (96 : Nat) (⟨"HeapSteps", "balance", "(I)J"⟩ : MethodName)) ∈ tb := List.mem_filter.mpr ⟨List.mem_of_getElem? (i := 318) (by decide +kernel), by decide +kernel⟩
theorem tw_319 : (Cond.instanceMethod (⟨"HeapSteps", "balance", "(I)J"⟩ : MethodName)) ∈ tb := List.mem_filter.mpr ⟨List.mem_of_getElem? (i := 319) (by decide +kernel), by decide +kernel⟩
theorem tw_320 : (Cond.selects "HeapSteps" (⟨"HeapSteps", "balance", "(I)J"⟩ : MethodName) (⟨"HeapSteps", "balance", "(I)J"⟩ : MethodName)) ∈ tb := List.mem_filter.mpr ⟨List.mem_of_getElem? (i := 320) (by decide +kernel), by decide +kernel⟩
theorem tw_321 : (Cond.code (⟨"HeapSteps", "balance", "(I)J"⟩ : MethodName) prog_1_method_19_code (2 : Nat) (Option.some FieldType.long)) ∈ tb := List.mem_filter.mpr ⟨List.mem_of_getElem? (i := 321) (by decide +kernel), by decide +kernel⟩
theorem tw_322 : (Cond.methodLink "HeapSteps" (120 : Nat) (⟨"HeapSteps", "putInLessThere", "(I)J"⟩ : MethodName)) ∈ tb := List.mem_filter.mpr ⟨List.mem_of_getElem? (i := 322) (by decide +kernel), by decide +kernel⟩
theorem tw_324 : (Cond.instanceMethod (⟨"HeapSteps", "putInLessThere", "(I)J"⟩ : MethodName)) ∈ tb := List.mem_filter.mpr ⟨List.mem_of_getElem? (i := 324) (by decide +kernel), by decide +kernel⟩
theorem tw_325 : (Cond.code (⟨"HeapSteps", "putInLessThere", "(I)J"⟩ : MethodName) prog_1_method_36_code (2 : Nat) (Option.some FieldType.long)) ∈ tb := List.mem_filter.mpr ⟨List.mem_of_getElem? (i := 325) (by decide +kernel), by decide +kernel⟩
theorem tw_326 : (Cond.methodLink "HeapStepsLaw" (100 : Nat) (⟨"HeapSteps", "batch", "()J"⟩ : MethodName)) ∈ tb := List.mem_filter.mpr ⟨List.mem_of_getElem? (i := 326) (by decide +kernel), by decide +kernel⟩
theorem tw_327 : (Cond.instanceMethod (⟨"HeapSteps", "batch", "()J"⟩ : MethodName)) ∈ tb := List.mem_filter.mpr ⟨List.mem_of_getElem? (i := 327) (by decide +kernel), by decide +kernel⟩
theorem tw_328 : (Cond.selects "HeapSteps" (⟨"HeapSteps", "batch", "()J"⟩ : MethodName) (⟨"HeapSteps", "batch", "()J"⟩ : MethodName)) ∈ tb := List.mem_filter.mpr ⟨List.mem_of_getElem? (i := 328) (by decide +kernel), by decide +kernel⟩
theorem tw_329 : (Cond.code (⟨"HeapSteps", "batch", "()J"⟩ : MethodName) prog_1_method_20_code (8 : Nat) (Option.some FieldType.long)) ∈ tb := List.mem_filter.mpr ⟨List.mem_of_getElem? (i := 329) (by decide +kernel), by decide +kernel⟩
theorem tw_330 : (Cond.methodLink "HeapSteps" (124 : Nat) (⟨"HeapSteps$Layer", "mass", "()J"⟩ : MethodName)) ∈ tb := List.mem_filter.mpr ⟨List.mem_of_getElem? (i := 330) (by decide +kernel), by decide +kernel⟩
theorem tw_331 : (Cond.methodLink "HeapStepsLaw" (9 : Nat) (⟨"HeapStepsLaw", "cell", "([II)I"⟩ : MethodName)) ∈ tb := List.mem_filter.mpr ⟨List.mem_of_getElem? (i := 331) (by decide +kernel), by decide +kernel⟩
theorem tw_332 : (Cond.static (⟨"HeapStepsLaw", "cell", "([II)I"⟩ : MethodName)) ∈ tb := List.mem_filter.mpr ⟨List.mem_of_getElem? (i := 332) (by decide +kernel), by decide +kernel⟩
theorem tw_333 : (Cond.code (⟨"HeapStepsLaw", "cell", "([II)I"⟩ : MethodName) method_2_code (2 : Nat) (Option.some FieldType.int)) ∈ tb := List.mem_filter.mpr ⟨List.mem_of_getElem? (i := 333) (by decide +kernel), by decide +kernel⟩
theorem tw_334 : (Cond.classLink "HeapStepsLaw" (18 : Nat) "HeapStepsModel") ∈ tb := List.mem_filter.mpr ⟨List.mem_of_getElem? (i := 334) (by decide +kernel), by decide +kernel⟩
theorem tw_335 : (Cond.instantiable "HeapStepsModel" (24 : Nat)) ∈ tb := List.mem_filter.mpr ⟨List.mem_of_getElem? (i := 335) (by decide +kernel), by decide +kernel⟩
theorem tw_336 : (Cond.methodLink "HeapStepsLaw" (20 : Nat) (⟨"HeapStepsModel", "<init>", "(I)V"⟩ : MethodName)) ∈ tb := List.mem_filter.mpr ⟨List.mem_of_getElem? (i := 336) (by decide +kernel), by decide +kernel⟩
theorem tw_337 : (Cond.instanceMethod (⟨"HeapStepsModel", "<init>", "(I)V"⟩ : MethodName)) ∈ tb := List.mem_filter.mpr ⟨List.mem_of_getElem? (i := 337) (by decide +kernel), by decide +kernel⟩
theorem tw_338 : (Cond.code (⟨"HeapStepsModel", "<init>", "(I)V"⟩ : MethodName) prog_6_method_1_code (3 : Nat) (Option.none : Option FieldType)) ∈ tb := List.mem_filter.mpr ⟨List.mem_of_getElem? (i := 338) (by decide +kernel), by decide +kernel⟩
theorem tw_339 : (Cond.methodLink "HeapStepsModel" (1 : Nat) (⟨"java/lang/Object", "<init>", "()V"⟩ : MethodName)) ∈ tb := List.mem_filter.mpr ⟨List.mem_of_getElem? (i := 339) (by decide +kernel), by decide +kernel⟩
theorem tw_340 : (Cond.constantLong "HeapStepsModel" (41 : Nat) (1000000000 : Int64)) ∈ tb := List.mem_filter.mpr ⟨List.mem_of_getElem? (i := 340) (by decide +kernel), by decide +kernel⟩
theorem tw_341 : (Cond.fieldLink "HeapStepsModel" (56 : Nat) "HeapStepsModel" "layers" "I") ∈ tb := List.mem_filter.mpr ⟨List.mem_of_getElem? (i := 341) (by decide +kernel), by decide +kernel⟩
theorem tw_342 : (Cond.fieldLink "HeapStepsModel" (7 : Nat) "HeapStepsModel" "parts" "[J") ∈ tb := List.mem_filter.mpr ⟨List.mem_of_getElem? (i := 342) (by decide +kernel), by decide +kernel⟩
theorem tw_343 : (Cond.fieldLink "HeapStepsModel" (13 : Nat) "HeapStepsModel" "waters" "[J") ∈ tb := List.mem_filter.mpr ⟨List.mem_of_getElem? (i := 343) (by decide +kernel), by decide +kernel⟩
theorem tw_344 : (Cond.fieldLink "HeapStepsModel" (16 : Nat) "HeapStepsModel" "heats" "[J") ∈ tb := List.mem_filter.mpr ⟨List.mem_of_getElem? (i := 344) (by decide +kernel), by decide +kernel⟩
theorem tw_345 : (Cond.fieldLink "HeapStepsModel" (19 : Nat) "HeapStepsModel" "dry" "[J") ∈ tb := List.mem_filter.mpr ⟨List.mem_of_getElem? (i := 345) (by decide +kernel), by decide +kernel⟩
theorem tw_346 : (Cond.fieldLink "HeapStepsModel" (22 : Nat) "HeapStepsModel" "holds" "[J") ∈ tb := List.mem_filter.mpr ⟨List.mem_of_getElem? (i := 346) (by decide +kernel), by decide +kernel⟩
theorem tw_347 : (Cond.fieldLink "HeapStepsModel" (25 : Nat) "HeapStepsModel" "rowCounts" "[I") ∈ tb := List.mem_filter.mpr ⟨List.mem_of_getElem? (i := 347) (by decide +kernel), by decide +kernel⟩
theorem tw_348 : (Cond.fieldLink "HeapStepsModel" (29 : Nat) "HeapStepsModel" "rowWarmths" "[I") ∈ tb := List.mem_filter.mpr ⟨List.mem_of_getElem? (i := 348) (by decide +kernel), by decide +kernel⟩
theorem tw_349 : (Cond.fieldLink "HeapStepsModel" (32 : Nat) "HeapStepsModel" "rowRates" "[I") ∈ tb := List.mem_filter.mpr ⟨List.mem_of_getElem? (i := 349) (by decide +kernel), by decide +kernel⟩
theorem tw_350 : (Cond.fieldLink "HeapStepsModel" (35 : Nat) "HeapStepsModel" "heatYields" "[I") ∈ tb := List.mem_filter.mpr ⟨List.mem_of_getElem? (i := 350) (by decide +kernel), by decide +kernel⟩
theorem tw_351 : (Cond.fieldLink "HeapStepsModel" (38 : Nat) "HeapStepsModel" "waterYields" "[I") ∈ tb := List.mem_filter.mpr ⟨List.mem_of_getElem? (i := 351) (by decide +kernel), by decide +kernel⟩
theorem tw_352 : (Cond.fieldLink "HeapStepsModel" (79 : Nat) "HeapStepsModel" "rain" "I") ∈ tb := List.mem_filter.mpr ⟨List.mem_of_getElem? (i := 352) (by decide +kernel), by decide +kernel⟩
theorem tw_353 : (Cond.fieldLink "HeapStepsModel" (82 : Nat) "HeapStepsModel" "loss" "I") ∈ tb := List.mem_filter.mpr ⟨List.mem_of_getElem? (i := 353) (by decide +kernel), by decide +kernel⟩
theorem tw_354 : (Cond.fieldLink "HeapStepsModel" (87 : Nat) "HeapStepsModel" "hasFan" "Z") ∈ tb := List.mem_filter.mpr ⟨List.mem_of_getElem? (i := 354) (by decide +kernel), by decide +kernel⟩
theorem tw_355 : (Cond.fieldLink "HeapStepsModel" (91 : Nat) "HeapStepsModel" "target" "I") ∈ tb := List.mem_filter.mpr ⟨List.mem_of_getElem? (i := 355) (by decide +kernel), by decide +kernel⟩
theorem tw_356 : (Cond.fieldLink "HeapStepsModel" (94 : Nat) "HeapStepsModel" "byNow" "I") ∈ tb := List.mem_filter.mpr ⟨List.mem_of_getElem? (i := 356) (by decide +kernel), by decide +kernel⟩
theorem tw_357 : (Cond.fieldLink "HeapStepsModel" (97 : Nat) "HeapStepsModel" "bySum" "I") ∈ tb := List.mem_filter.mpr ⟨List.mem_of_getElem? (i := 357) (by decide +kernel), by decide +kernel⟩
theorem tw_358 : (Cond.fieldLink "HeapStepsModel" (100 : Nat) "HeapStepsModel" "sum" "J") ∈ tb := List.mem_filter.mpr ⟨List.mem_of_getElem? (i := 358) (by decide +kernel), by decide +kernel⟩
theorem tw_359 : (Cond.fieldLink "HeapStepsModel" (118 : Nat) "HeapStepsModel" "air" "I") ∈ tb := List.mem_filter.mpr ⟨List.mem_of_getElem? (i := 359) (by decide +kernel), by decide +kernel⟩
theorem tw_360 : (Cond.fieldLink "HeapStepsModel" (43 : Nat) "HeapStepsModel" "limit" "J") ∈ tb := List.mem_filter.mpr ⟨List.mem_of_getElem? (i := 360) (by decide +kernel), by decide +kernel⟩
theorem tw_361 : (Cond.fieldLink "HeapStepsModel" (154 : Nat) "HeapStepsModel" "turns" "I") ∈ tb := List.mem_filter.mpr ⟨List.mem_of_getElem? (i := 361) (by decide +kernel), by decide +kernel⟩
theorem tw_362 : (Cond.fieldLink "HeapStepsModel" (47 : Nat) "HeapStepsModel" "gone" "[J") ∈ tb := List.mem_filter.mpr ⟨List.mem_of_getElem? (i := 362) (by decide +kernel), by decide +kernel⟩
theorem tw_363 : (Cond.fieldLink "HeapStepsModel" (50 : Nat) "HeapStepsModel" "put" "[J") ∈ tb := List.mem_filter.mpr ⟨List.mem_of_getElem? (i := 363) (by decide +kernel), by decide +kernel⟩
theorem tw_364 : (Cond.fieldLink "HeapStepsModel" (53 : Nat) "HeapStepsModel" "taken" "[J") ∈ tb := List.mem_filter.mpr ⟨List.mem_of_getElem? (i := 364) (by decide +kernel), by decide +kernel⟩
theorem tw_365 : (Cond.laysFinal "HeapStepsModel" "HeapStepsModel" "layers" "I") ∈ tb := List.mem_filter.mpr ⟨List.mem_of_getElem? (i := 365) (by decide +kernel), by decide +kernel⟩
theorem tw_367 : (Cond.laysFinal "HeapStepsModel" "HeapStepsModel" "parts" "[J") ∈ tb := List.mem_filter.mpr ⟨List.mem_of_getElem? (i := 367) (by decide +kernel), by decide +kernel⟩
theorem tw_369 : (Cond.laysFinal "HeapStepsModel" "HeapStepsModel" "waters" "[J") ∈ tb := List.mem_filter.mpr ⟨List.mem_of_getElem? (i := 369) (by decide +kernel), by decide +kernel⟩
theorem tw_371 : (Cond.laysFinal "HeapStepsModel" "HeapStepsModel" "heats" "[J") ∈ tb := List.mem_filter.mpr ⟨List.mem_of_getElem? (i := 371) (by decide +kernel), by decide +kernel⟩
theorem tw_373 : (Cond.laysFinal "HeapStepsModel" "HeapStepsModel" "dry" "[J") ∈ tb := List.mem_filter.mpr ⟨List.mem_of_getElem? (i := 373) (by decide +kernel), by decide +kernel⟩
theorem tw_375 : (Cond.laysFinal "HeapStepsModel" "HeapStepsModel" "holds" "[J") ∈ tb := List.mem_filter.mpr ⟨List.mem_of_getElem? (i := 375) (by decide +kernel), by decide +kernel⟩
theorem tw_377 : (Cond.laysFinal "HeapStepsModel" "HeapStepsModel" "rowCounts" "[I") ∈ tb := List.mem_filter.mpr ⟨List.mem_of_getElem? (i := 377) (by decide +kernel), by decide +kernel⟩
theorem tw_379 : (Cond.laysFinal "HeapStepsModel" "HeapStepsModel" "rowWarmths" "[I") ∈ tb := List.mem_filter.mpr ⟨List.mem_of_getElem? (i := 379) (by decide +kernel), by decide +kernel⟩
theorem tw_381 : (Cond.laysFinal "HeapStepsModel" "HeapStepsModel" "rowRates" "[I") ∈ tb := List.mem_filter.mpr ⟨List.mem_of_getElem? (i := 381) (by decide +kernel), by decide +kernel⟩
theorem tw_383 : (Cond.laysFinal "HeapStepsModel" "HeapStepsModel" "heatYields" "[I") ∈ tb := List.mem_filter.mpr ⟨List.mem_of_getElem? (i := 383) (by decide +kernel), by decide +kernel⟩
theorem tw_385 : (Cond.laysFinal "HeapStepsModel" "HeapStepsModel" "waterYields" "[I") ∈ tb := List.mem_filter.mpr ⟨List.mem_of_getElem? (i := 385) (by decide +kernel), by decide +kernel⟩
theorem tw_387 : (Cond.lays "HeapStepsModel" "HeapStepsModel" "rain" "I") ∈ tb := List.mem_filter.mpr ⟨List.mem_of_getElem? (i := 387) (by decide +kernel), by decide +kernel⟩
theorem tw_389 : (Cond.lays "HeapStepsModel" "HeapStepsModel" "loss" "I") ∈ tb := List.mem_filter.mpr ⟨List.mem_of_getElem? (i := 389) (by decide +kernel), by decide +kernel⟩
theorem tw_391 : (Cond.lays "HeapStepsModel" "HeapStepsModel" "hasFan" "Z") ∈ tb := List.mem_filter.mpr ⟨List.mem_of_getElem? (i := 391) (by decide +kernel), by decide +kernel⟩
theorem tw_393 : (Cond.lays "HeapStepsModel" "HeapStepsModel" "target" "I") ∈ tb := List.mem_filter.mpr ⟨List.mem_of_getElem? (i := 393) (by decide +kernel), by decide +kernel⟩
theorem tw_395 : (Cond.lays "HeapStepsModel" "HeapStepsModel" "byNow" "I") ∈ tb := List.mem_filter.mpr ⟨List.mem_of_getElem? (i := 395) (by decide +kernel), by decide +kernel⟩
theorem tw_397 : (Cond.lays "HeapStepsModel" "HeapStepsModel" "bySum" "I") ∈ tb := List.mem_filter.mpr ⟨List.mem_of_getElem? (i := 397) (by decide +kernel), by decide +kernel⟩
theorem tw_399 : (Cond.lays "HeapStepsModel" "HeapStepsModel" "sum" "J") ∈ tb := List.mem_filter.mpr ⟨List.mem_of_getElem? (i := 399) (by decide +kernel), by decide +kernel⟩
theorem tw_401 : (Cond.lays "HeapStepsModel" "HeapStepsModel" "air" "I") ∈ tb := List.mem_filter.mpr ⟨List.mem_of_getElem? (i := 401) (by decide +kernel), by decide +kernel⟩
theorem tw_403 : (Cond.lays "HeapStepsModel" "HeapStepsModel" "limit" "J") ∈ tb := List.mem_filter.mpr ⟨List.mem_of_getElem? (i := 403) (by decide +kernel), by decide +kernel⟩
theorem tw_405 : (Cond.lays "HeapStepsModel" "HeapStepsModel" "turns" "I") ∈ tb := List.mem_filter.mpr ⟨List.mem_of_getElem? (i := 405) (by decide +kernel), by decide +kernel⟩
theorem tw_407 : (Cond.laysFinal "HeapStepsModel" "HeapStepsModel" "gone" "[J") ∈ tb := List.mem_filter.mpr ⟨List.mem_of_getElem? (i := 407) (by decide +kernel), by decide +kernel⟩
theorem tw_409 : (Cond.laysFinal "HeapStepsModel" "HeapStepsModel" "put" "[J") ∈ tb := List.mem_filter.mpr ⟨List.mem_of_getElem? (i := 409) (by decide +kernel), by decide +kernel⟩
theorem tw_411 : (Cond.laysFinal "HeapStepsModel" "HeapStepsModel" "taken" "[J") ∈ tb := List.mem_filter.mpr ⟨List.mem_of_getElem? (i := 411) (by decide +kernel), by decide +kernel⟩
theorem tw_414 : (Cond.methodLink "HeapStepsLaw" (25 : Nat) (⟨"HeapStepsModel", "part", "(III)Z"⟩ : MethodName)) ∈ tb := List.mem_filter.mpr ⟨List.mem_of_getElem? (i := 414) (by decide +kernel), by decide +kernel⟩
theorem tw_415 : (Cond.instanceMethod (⟨"HeapStepsModel", "part", "(III)Z"⟩ : MethodName)) ∈ tb := List.mem_filter.mpr ⟨List.mem_of_getElem? (i := 415) (by decide +kernel), by decide +kernel⟩
theorem tw_416 : (Cond.selects "HeapStepsModel" (⟨"HeapStepsModel", "part", "(III)Z"⟩ : MethodName) (⟨"HeapStepsModel", "part", "(III)Z"⟩ : MethodName)) ∈ tb := List.mem_filter.mpr ⟨List.mem_of_getElem? (i := 416) (by decide +kernel), by decide +kernel⟩
theorem tw_417 : (Cond.code (⟨"HeapStepsModel", "part", "(III)Z"⟩ : MethodName) prog_6_method_6_code (4 : Nat) (Option.some FieldType.boolean)) ∈ tb := List.mem_filter.mpr ⟨List.mem_of_getElem? (i := 417) (by decide +kernel), by decide +kernel⟩
theorem tw_418 : (Cond.methodLink "HeapStepsModel" (60 : Nat) (⟨"HeapStepsModel", "isLayer", "(I)Z"⟩ : MethodName)) ∈ tb := List.mem_filter.mpr ⟨List.mem_of_getElem? (i := 418) (by decide +kernel), by decide +kernel⟩
theorem tw_420 : (Cond.instanceMethod (⟨"HeapStepsModel", "isLayer", "(I)Z"⟩ : MethodName)) ∈ tb := List.mem_filter.mpr ⟨List.mem_of_getElem? (i := 420) (by decide +kernel), by decide +kernel⟩
theorem tw_421 : (Cond.code (⟨"HeapStepsModel", "isLayer", "(I)Z"⟩ : MethodName) prog_6_method_4_code (2 : Nat) (Option.some FieldType.boolean)) ∈ tb := List.mem_filter.mpr ⟨List.mem_of_getElem? (i := 421) (by decide +kernel), by decide +kernel⟩
theorem tw_422 : (Cond.methodLink "HeapStepsModel" (64 : Nat) (⟨"HeapStepsModel", "isPart", "(I)Z"⟩ : MethodName)) ∈ tb := List.mem_filter.mpr ⟨List.mem_of_getElem? (i := 422) (by decide +kernel), by decide +kernel⟩
theorem tw_423 : (Cond.static (⟨"HeapStepsModel", "isPart", "(I)Z"⟩ : MethodName)) ∈ tb := List.mem_filter.mpr ⟨List.mem_of_getElem? (i := 423) (by decide +kernel), by decide +kernel⟩
theorem tw_424 : (Cond.code (⟨"HeapStepsModel", "isPart", "(I)Z"⟩ : MethodName) prog_6_method_5_code (1 : Nat) (Option.some FieldType.boolean)) ∈ tb := List.mem_filter.mpr ⟨List.mem_of_getElem? (i := 424) (by decide +kernel), by decide +kernel⟩
theorem tw_425 : (Cond.constantLong "HeapStepsModel" (67 : Nat) (1000000 : Int64)) ∈ tb := List.mem_filter.mpr ⟨List.mem_of_getElem? (i := 425) (by decide +kernel), by decide +kernel⟩
theorem tw_426 : (Cond.methodLink "HeapStepsModel" (69 : Nat) (⟨"HeapStepsModel", "isIn", "(JJJ)Z"⟩ : MethodName)) ∈ tb := List.mem_filter.mpr ⟨List.mem_of_getElem? (i := 426) (by decide +kernel), by decide +kernel⟩
theorem tw_427 : (Cond.static (⟨"HeapStepsModel", "isIn", "(JJJ)Z"⟩ : MethodName)) ∈ tb := List.mem_filter.mpr ⟨List.mem_of_getElem? (i := 427) (by decide +kernel), by decide +kernel⟩
theorem tw_428 : (Cond.code (⟨"HeapStepsModel", "isIn", "(JJJ)Z"⟩ : MethodName) prog_6_method_3_code (6 : Nat) (Option.some FieldType.boolean)) ∈ tb := List.mem_filter.mpr ⟨List.mem_of_getElem? (i := 428) (by decide +kernel), by decide +kernel⟩
theorem tw_429 : (Cond.methodLink "HeapStepsLaw" (30 : Nat) (⟨"HeapStepsModel", "water", "(II)Z"⟩ : MethodName)) ∈ tb := List.mem_filter.mpr ⟨List.mem_of_getElem? (i := 429) (by decide +kernel), by decide +kernel⟩
theorem tw_430 : (Cond.instanceMethod (⟨"HeapStepsModel", "water", "(II)Z"⟩ : MethodName)) ∈ tb := List.mem_filter.mpr ⟨List.mem_of_getElem? (i := 430) (by decide +kernel), by decide +kernel⟩
theorem tw_431 : (Cond.selects "HeapStepsModel" (⟨"HeapStepsModel", "water", "(II)Z"⟩ : MethodName) (⟨"HeapStepsModel", "water", "(II)Z"⟩ : MethodName)) ∈ tb := List.mem_filter.mpr ⟨List.mem_of_getElem? (i := 431) (by decide +kernel), by decide +kernel⟩
theorem tw_432 : (Cond.code (⟨"HeapStepsModel", "water", "(II)Z"⟩ : MethodName) prog_6_method_7_code (3 : Nat) (Option.some FieldType.boolean)) ∈ tb := List.mem_filter.mpr ⟨List.mem_of_getElem? (i := 432) (by decide +kernel), by decide +kernel⟩
theorem tw_433 : (Cond.methodLink "HeapStepsLaw" (34 : Nat) (⟨"HeapStepsModel", "heat", "(II)Z"⟩ : MethodName)) ∈ tb := List.mem_filter.mpr ⟨List.mem_of_getElem? (i := 433) (by decide +kernel), by decide +kernel⟩
theorem tw_434 : (Cond.instanceMethod (⟨"HeapStepsModel", "heat", "(II)Z"⟩ : MethodName)) ∈ tb := List.mem_filter.mpr ⟨List.mem_of_getElem? (i := 434) (by decide +kernel), by decide +kernel⟩
theorem tw_435 : (Cond.selects "HeapStepsModel" (⟨"HeapStepsModel", "heat", "(II)Z"⟩ : MethodName) (⟨"HeapStepsModel", "heat", "(II)Z"⟩ : MethodName)) ∈ tb := List.mem_filter.mpr ⟨List.mem_of_getElem? (i := 435) (by decide +kernel), by decide +kernel⟩
theorem tw_436 : (Cond.code (⟨"HeapStepsModel", "heat", "(II)Z"⟩ : MethodName) prog_6_method_8_code (3 : Nat) (Option.some FieldType.boolean)) ∈ tb := List.mem_filter.mpr ⟨List.mem_of_getElem? (i := 436) (by decide +kernel), by decide +kernel⟩
theorem tw_437 : (Cond.constantLong "HeapStepsModel" (73 : Nat) (1000000000000000 : Int64)) ∈ tb := List.mem_filter.mpr ⟨List.mem_of_getElem? (i := 437) (by decide +kernel), by decide +kernel⟩
theorem tw_438 : (Cond.methodLink "HeapStepsLaw" (38 : Nat) (⟨"HeapStepsModel", "rate", "(III)Z"⟩ : MethodName)) ∈ tb := List.mem_filter.mpr ⟨List.mem_of_getElem? (i := 438) (by decide +kernel), by decide +kernel⟩
theorem tw_439 : (Cond.instanceMethod (⟨"HeapStepsModel", "rate", "(III)Z"⟩ : MethodName)) ∈ tb := List.mem_filter.mpr ⟨List.mem_of_getElem? (i := 439) (by decide +kernel), by decide +kernel⟩
theorem tw_440 : (Cond.selects "HeapStepsModel" (⟨"HeapStepsModel", "rate", "(III)Z"⟩ : MethodName) (⟨"HeapStepsModel", "rate", "(III)Z"⟩ : MethodName)) ∈ tb := List.mem_filter.mpr ⟨List.mem_of_getElem? (i := 440) (by decide +kernel), by decide +kernel⟩
theorem tw_441 : (Cond.code (⟨"HeapStepsModel", "rate", "(III)Z"⟩ : MethodName) prog_6_method_9_code (5 : Nat) (Option.some FieldType.boolean)) ∈ tb := List.mem_filter.mpr ⟨List.mem_of_getElem? (i := 441) (by decide +kernel), by decide +kernel⟩
theorem tw_442 : (Cond.constantLong "HeapStepsModel" (75 : Nat) (100000 : Int64)) ∈ tb := List.mem_filter.mpr ⟨List.mem_of_getElem? (i := 442) (by decide +kernel), by decide +kernel⟩
theorem tw_443 : (Cond.methodLink "HeapStepsLaw" (42 : Nat) (⟨"HeapStepsModel", "yields", "(III)Z"⟩ : MethodName)) ∈ tb := List.mem_filter.mpr ⟨List.mem_of_getElem? (i := 443) (by decide +kernel), by decide +kernel⟩
theorem tw_444 : (Cond.instanceMethod (⟨"HeapStepsModel", "yields", "(III)Z"⟩ : MethodName)) ∈ tb := List.mem_filter.mpr ⟨List.mem_of_getElem? (i := 444) (by decide +kernel), by decide +kernel⟩
theorem tw_445 : (Cond.selects "HeapStepsModel" (⟨"HeapStepsModel", "yields", "(III)Z"⟩ : MethodName) (⟨"HeapStepsModel", "yields", "(III)Z"⟩ : MethodName)) ∈ tb := List.mem_filter.mpr ⟨List.mem_of_getElem? (i := 445) (by decide +kernel), by decide +kernel⟩
theorem tw_446 : (Cond.code (⟨"HeapStepsModel", "yields", "(III)Z"⟩ : MethodName) prog_6_method_10_code (4 : Nat) (Option.some FieldType.boolean)) ∈ tb := List.mem_filter.mpr ⟨List.mem_of_getElem? (i := 446) (by decide +kernel), by decide +kernel⟩
theorem tw_447 : (Cond.constantLong "HeapStepsModel" (77 : Nat) (1000 : Int64)) ∈ tb := List.mem_filter.mpr ⟨List.mem_of_getElem? (i := 447) (by decide +kernel), by decide +kernel⟩
theorem tw_448 : (Cond.methodLink "HeapStepsLaw" (46 : Nat) (⟨"HeapStepsModel", "bounds", "(III)Z"⟩ : MethodName)) ∈ tb := List.mem_filter.mpr ⟨List.mem_of_getElem? (i := 448) (by decide +kernel), by decide +kernel⟩
theorem tw_449 : (Cond.instanceMethod (⟨"HeapStepsModel", "bounds", "(III)Z"⟩ : MethodName)) ∈ tb := List.mem_filter.mpr ⟨List.mem_of_getElem? (i := 449) (by decide +kernel), by decide +kernel⟩
theorem tw_450 : (Cond.selects "HeapStepsModel" (⟨"HeapStepsModel", "bounds", "(III)Z"⟩ : MethodName) (⟨"HeapStepsModel", "bounds", "(III)Z"⟩ : MethodName)) ∈ tb := List.mem_filter.mpr ⟨List.mem_of_getElem? (i := 450) (by decide +kernel), by decide +kernel⟩
theorem tw_451 : (Cond.code (⟨"HeapStepsModel", "bounds", "(III)Z"⟩ : MethodName) prog_6_method_11_code (4 : Nat) (Option.some FieldType.boolean)) ∈ tb := List.mem_filter.mpr ⟨List.mem_of_getElem? (i := 451) (by decide +kernel), by decide +kernel⟩
theorem tw_452 : (Cond.methodLink "HeapStepsLaw" (51 : Nat) (⟨"HeapStepsModel", "rain", "(I)Z"⟩ : MethodName)) ∈ tb := List.mem_filter.mpr ⟨List.mem_of_getElem? (i := 452) (by decide +kernel), by decide +kernel⟩
theorem tw_453 : (Cond.instanceMethod (⟨"HeapStepsModel", "rain", "(I)Z"⟩ : MethodName)) ∈ tb := List.mem_filter.mpr ⟨List.mem_of_getElem? (i := 453) (by decide +kernel), by decide +kernel⟩
theorem tw_454 : (Cond.selects "HeapStepsModel" (⟨"HeapStepsModel", "rain", "(I)Z"⟩ : MethodName) (⟨"HeapStepsModel", "rain", "(I)Z"⟩ : MethodName)) ∈ tb := List.mem_filter.mpr ⟨List.mem_of_getElem? (i := 454) (by decide +kernel), by decide +kernel⟩
theorem tw_455 : (Cond.code (⟨"HeapStepsModel", "rain", "(I)Z"⟩ : MethodName) prog_6_method_12_code (2 : Nat) (Option.some FieldType.boolean)) ∈ tb := List.mem_filter.mpr ⟨List.mem_of_getElem? (i := 455) (by decide +kernel), by decide +kernel⟩
theorem tw_456 : (Cond.methodLink "HeapStepsLaw" (55 : Nat) (⟨"HeapStepsModel", "loss", "(I)Z"⟩ : MethodName)) ∈ tb := List.mem_filter.mpr ⟨List.mem_of_getElem? (i := 456) (by decide +kernel), by decide +kernel⟩
theorem tw_457 : (Cond.instanceMethod (⟨"HeapStepsModel", "loss", "(I)Z"⟩ : MethodName)) ∈ tb := List.mem_filter.mpr ⟨List.mem_of_getElem? (i := 457) (by decide +kernel), by decide +kernel⟩
theorem tw_458 : (Cond.selects "HeapStepsModel" (⟨"HeapStepsModel", "loss", "(I)Z"⟩ : MethodName) (⟨"HeapStepsModel", "loss", "(I)Z"⟩ : MethodName)) ∈ tb := List.mem_filter.mpr ⟨List.mem_of_getElem? (i := 458) (by decide +kernel), by decide +kernel⟩
theorem tw_459 : (Cond.code (⟨"HeapStepsModel", "loss", "(I)Z"⟩ : MethodName) prog_6_method_13_code (2 : Nat) (Option.some FieldType.boolean)) ∈ tb := List.mem_filter.mpr ⟨List.mem_of_getElem? (i := 459) (by decide +kernel), by decide +kernel⟩
theorem tw_460 : (Cond.methodLink "HeapStepsLaw" (59 : Nat) (⟨"HeapStepsModel", "fan", "(III)Z"⟩ : MethodName)) ∈ tb := List.mem_filter.mpr ⟨List.mem_of_getElem? (i := 460) (by decide +kernel), by decide +kernel⟩
theorem tw_461 : (Cond.instanceMethod (⟨"HeapStepsModel", "fan", "(III)Z"⟩ : MethodName)) ∈ tb := List.mem_filter.mpr ⟨List.mem_of_getElem? (i := 461) (by decide +kernel), by decide +kernel⟩
theorem tw_462 : (Cond.selects "HeapStepsModel" (⟨"HeapStepsModel", "fan", "(III)Z"⟩ : MethodName) (⟨"HeapStepsModel", "fan", "(III)Z"⟩ : MethodName)) ∈ tb := List.mem_filter.mpr ⟨List.mem_of_getElem? (i := 462) (by decide +kernel), by decide +kernel⟩
theorem tw_463 : (Cond.code (⟨"HeapStepsModel", "fan", "(III)Z"⟩ : MethodName) prog_6_method_14_code (4 : Nat) (Option.some FieldType.boolean)) ∈ tb := List.mem_filter.mpr ⟨List.mem_of_getElem? (i := 463) (by decide +kernel), by decide +kernel⟩
theorem tw_464 : (Cond.constantLong "HeapStepsModel" (85 : Nat) (-1000 : Int64)) ∈ tb := List.mem_filter.mpr ⟨List.mem_of_getElem? (i := 464) (by decide +kernel), by decide +kernel⟩
theorem tw_465 : (Cond.methodLink "HeapStepsLaw" (63 : Nat) (⟨"HeapStepsModel", "limit", "(I)Z"⟩ : MethodName)) ∈ tb := List.mem_filter.mpr ⟨List.mem_of_getElem? (i := 465) (by decide +kernel), by decide +kernel⟩
theorem tw_466 : (Cond.instanceMethod (⟨"HeapStepsModel", "limit", "(I)Z"⟩ : MethodName)) ∈ tb := List.mem_filter.mpr ⟨List.mem_of_getElem? (i := 466) (by decide +kernel), by decide +kernel⟩
theorem tw_467 : (Cond.selects "HeapStepsModel" (⟨"HeapStepsModel", "limit", "(I)Z"⟩ : MethodName) (⟨"HeapStepsModel", "limit", "(I)Z"⟩ : MethodName)) ∈ tb := List.mem_filter.mpr ⟨List.mem_of_getElem? (i := 467) (by decide +kernel), by decide +kernel⟩
theorem tw_468 : (Cond.code (⟨"HeapStepsModel", "limit", "(I)Z"⟩ : MethodName) prog_6_method_15_code (2 : Nat) (Option.some FieldType.boolean)) ∈ tb := List.mem_filter.mpr ⟨List.mem_of_getElem? (i := 468) (by decide +kernel), by decide +kernel⟩
theorem tw_469 : (Cond.methodLink "HeapStepsLaw" (68 : Nat) (⟨"HeapStepsModel", "run", "(I)I"⟩ : MethodName)) ∈ tb := List.mem_filter.mpr ⟨List.mem_of_getElem? (i := 469) (by decide +kernel), by decide +kernel⟩
theorem tw_470 : (Cond.instanceMethod (⟨"HeapStepsModel", "run", "(I)I"⟩ : MethodName)) ∈ tb := List.mem_filter.mpr ⟨List.mem_of_getElem? (i := 470) (by decide +kernel), by decide +kernel⟩
theorem tw_471 : (Cond.selects "HeapStepsModel" (⟨"HeapStepsModel", "run", "(I)I"⟩ : MethodName) (⟨"HeapStepsModel", "run", "(I)I"⟩ : MethodName)) ∈ tb := List.mem_filter.mpr ⟨List.mem_of_getElem? (i := 471) (by decide +kernel), by decide +kernel⟩
theorem tw_472 : (Cond.code (⟨"HeapStepsModel", "run", "(I)I"⟩ : MethodName) prog_6_method_26_code (3 : Nat) (Option.some FieldType.int)) ∈ tb := List.mem_filter.mpr ⟨List.mem_of_getElem? (i := 472) (by decide +kernel), by decide +kernel⟩
theorem tw_473 : (Cond.constantLong "HeapStepsModel" (143 : Nat) (20000 : Int64)) ∈ tb := List.mem_filter.mpr ⟨List.mem_of_getElem? (i := 473) (by decide +kernel), by decide +kernel⟩
theorem tw_474 : (Cond.methodLink "HeapStepsModel" (123 : Nat) (⟨"HeapStepsModel", "warmest", "()J"⟩ : MethodName)) ∈ tb := List.mem_filter.mpr ⟨List.mem_of_getElem? (i := 474) (by decide +kernel), by decide +kernel⟩
theorem tw_476 : (Cond.instanceMethod (⟨"HeapStepsModel", "warmest", "()J"⟩ : MethodName)) ∈ tb := List.mem_filter.mpr ⟨List.mem_of_getElem? (i := 476) (by decide +kernel), by decide +kernel⟩
theorem tw_477 : (Cond.code (⟨"HeapStepsModel", "warmest", "()J"⟩ : MethodName) prog_6_method_24_code (4 : Nat) (Option.some FieldType.long)) ∈ tb := List.mem_filter.mpr ⟨List.mem_of_getElem? (i := 477) (by decide +kernel), by decide +kernel⟩
theorem tw_478 : (Cond.methodLink "HeapStepsModel" (107 : Nat) (⟨"HeapStepsModel", "warmthOf", "(I)J"⟩ : MethodName)) ∈ tb := List.mem_filter.mpr ⟨List.mem_of_getElem? (i := 478) (by decide +kernel), by decide +kernel⟩
theorem tw_480 : (Cond.instanceMethod (⟨"HeapStepsModel", "warmthOf", "(I)J"⟩ : MethodName)) ∈ tb := List.mem_filter.mpr ⟨List.mem_of_getElem? (i := 480) (by decide +kernel), by decide +kernel⟩
theorem tw_481 : (Cond.code (⟨"HeapStepsModel", "warmthOf", "(I)J"⟩ : MethodName) prog_6_method_18_code (2 : Nat) (Option.some FieldType.long)) ∈ tb := List.mem_filter.mpr ⟨List.mem_of_getElem? (i := 481) (by decide +kernel), by decide +kernel⟩
theorem tw_482 : (Cond.methodLink "HeapStepsModel" (103 : Nat) (⟨"HeapStepsModel", "massOf", "(I)J"⟩ : MethodName)) ∈ tb := List.mem_filter.mpr ⟨List.mem_of_getElem? (i := 482) (by decide +kernel), by decide +kernel⟩
theorem tw_484 : (Cond.instanceMethod (⟨"HeapStepsModel", "massOf", "(I)J"⟩ : MethodName)) ∈ tb := List.mem_filter.mpr ⟨List.mem_of_getElem? (i := 484) (by decide +kernel), by decide +kernel⟩
theorem tw_485 : (Cond.code (⟨"HeapStepsModel", "massOf", "(I)J"⟩ : MethodName) prog_6_method_17_code (5 : Nat) (Option.some FieldType.long)) ∈ tb := List.mem_filter.mpr ⟨List.mem_of_getElem? (i := 485) (by decide +kernel), by decide +kernel⟩
theorem tw_486 : (Cond.methodLink "HeapStepsModel" (145 : Nat) (⟨"HeapStepsModel", "minute", "()V"⟩ : MethodName)) ∈ tb := List.mem_filter.mpr ⟨List.mem_of_getElem? (i := 486) (by decide +kernel), by decide +kernel⟩
theorem tw_488 : (Cond.instanceMethod (⟨"HeapStepsModel", "minute", "()V"⟩ : MethodName)) ∈ tb := List.mem_filter.mpr ⟨List.mem_of_getElem? (i := 488) (by decide +kernel), by decide +kernel⟩
theorem tw_489 : (Cond.code (⟨"HeapStepsModel", "minute", "()V"⟩ : MethodName) prog_6_method_25_code (4 : Nat) (Option.none : Option FieldType)) ∈ tb := List.mem_filter.mpr ⟨List.mem_of_getElem? (i := 489) (by decide +kernel), by decide +kernel⟩
theorem tw_490 : (Cond.methodLink "HeapStepsModel" (133 : Nat) (⟨"HeapStepsModel", "breaks", "(I)V"⟩ : MethodName)) ∈ tb := List.mem_filter.mpr ⟨List.mem_of_getElem? (i := 490) (by decide +kernel), by decide +kernel⟩
theorem tw_492 : (Cond.instanceMethod (⟨"HeapStepsModel", "breaks", "(I)V"⟩ : MethodName)) ∈ tb := List.mem_filter.mpr ⟨List.mem_of_getElem? (i := 492) (by decide +kernel), by decide +kernel⟩
theorem tw_493 : (Cond.code (⟨"HeapStepsModel", "breaks", "(I)V"⟩ : MethodName) prog_6_method_20_code (11 : Nat) (Option.none : Option FieldType)) ∈ tb := List.mem_filter.mpr ⟨List.mem_of_getElem? (i := 493) (by decide +kernel), by decide +kernel⟩
theorem tw_494 : (Cond.methodLink "HeapStepsModel" (110 : Nat) (⟨"HeapStepsModel", "rateOf", "(IJ)J"⟩ : MethodName)) ∈ tb := List.mem_filter.mpr ⟨List.mem_of_getElem? (i := 494) (by decide +kernel), by decide +kernel⟩
theorem tw_496 : (Cond.instanceMethod (⟨"HeapStepsModel", "rateOf", "(IJ)J"⟩ : MethodName)) ∈ tb := List.mem_filter.mpr ⟨List.mem_of_getElem? (i := 496) (by decide +kernel), by decide +kernel⟩
theorem tw_497 : (Cond.code (⟨"HeapStepsModel", "rateOf", "(IJ)J"⟩ : MethodName) prog_6_method_19_code (7 : Nat) (Option.some FieldType.long)) ∈ tb := List.mem_filter.mpr ⟨List.mem_of_getElem? (i := 497) (by decide +kernel), by decide +kernel⟩
theorem tw_498 : (Cond.methodLink "HeapStepsModel" (114 : Nat) (⟨"HeapStepsModel", "partOf", "(JJ)J"⟩ : MethodName)) ∈ tb := List.mem_filter.mpr ⟨List.mem_of_getElem? (i := 498) (by decide +kernel), by decide +kernel⟩
theorem tw_499 : (Cond.static (⟨"HeapStepsModel", "partOf", "(JJ)J"⟩ : MethodName)) ∈ tb := List.mem_filter.mpr ⟨List.mem_of_getElem? (i := 499) (by decide +kernel), by decide +kernel⟩
theorem tw_500 : (Cond.code (⟨"HeapStepsModel", "partOf", "(JJ)J"⟩ : MethodName) prog_6_method_16_code (4 : Nat) (Option.some FieldType.long)) ∈ tb := List.mem_filter.mpr ⟨List.mem_of_getElem? (i := 500) (by decide +kernel), by decide +kernel⟩
theorem tw_501 : (Cond.methodLink "HeapStepsModel" (137 : Nat) (⟨"HeapStepsModel", "loses", "(I)V"⟩ : MethodName)) ∈ tb := List.mem_filter.mpr ⟨List.mem_of_getElem? (i := 501) (by decide +kernel), by decide +kernel⟩
theorem tw_503 : (Cond.instanceMethod (⟨"HeapStepsModel", "loses", "(I)V"⟩ : MethodName)) ∈ tb := List.mem_filter.mpr ⟨List.mem_of_getElem? (i := 503) (by decide +kernel), by decide +kernel⟩
theorem tw_504 : (Cond.code (⟨"HeapStepsModel", "loses", "(I)V"⟩ : MethodName) prog_6_method_21_code (8 : Nat) (Option.none : Option FieldType)) ∈ tb := List.mem_filter.mpr ⟨List.mem_of_getElem? (i := 504) (by decide +kernel), by decide +kernel⟩
theorem tw_505 : (Cond.constantLong "HeapStepsModel" (121 : Nat) (600 : Int64)) ∈ tb := List.mem_filter.mpr ⟨List.mem_of_getElem? (i := 505) (by decide +kernel), by decide +kernel⟩
theorem tw_506 : (Cond.methodLink "HeapStepsModel" (140 : Nat) (⟨"HeapStepsModel", "setFan", "()V"⟩ : MethodName)) ∈ tb := List.mem_filter.mpr ⟨List.mem_of_getElem? (i := 506) (by decide +kernel), by decide +kernel⟩
theorem tw_508 : (Cond.instanceMethod (⟨"HeapStepsModel", "setFan", "()V"⟩ : MethodName)) ∈ tb := List.mem_filter.mpr ⟨List.mem_of_getElem? (i := 508) (by decide +kernel), by decide +kernel⟩
theorem tw_509 : (Cond.code (⟨"HeapStepsModel", "setFan", "()V"⟩ : MethodName) prog_6_method_23_code (7 : Nat) (Option.none : Option FieldType)) ∈ tb := List.mem_filter.mpr ⟨List.mem_of_getElem? (i := 509) (by decide +kernel), by decide +kernel⟩
theorem tw_510 : (Cond.constantLong "HeapStepsModel" (127 : Nat) (-1000000000 : Int64)) ∈ tb := List.mem_filter.mpr ⟨List.mem_of_getElem? (i := 510) (by decide +kernel), by decide +kernel⟩
theorem tw_511 : (Cond.methodLink "HeapStepsModel" (129 : Nat) (⟨"HeapStepsModel", "cut", "(JJJ)J"⟩ : MethodName)) ∈ tb := List.mem_filter.mpr ⟨List.mem_of_getElem? (i := 511) (by decide +kernel), by decide +kernel⟩
theorem tw_512 : (Cond.static (⟨"HeapStepsModel", "cut", "(JJJ)J"⟩ : MethodName)) ∈ tb := List.mem_filter.mpr ⟨List.mem_of_getElem? (i := 512) (by decide +kernel), by decide +kernel⟩
theorem tw_513 : (Cond.code (⟨"HeapStepsModel", "cut", "(JJJ)J"⟩ : MethodName) prog_6_method_22_code (6 : Nat) (Option.some FieldType.long)) ∈ tb := List.mem_filter.mpr ⟨List.mem_of_getElem? (i := 513) (by decide +kernel), by decide +kernel⟩
theorem tw_514 : (Cond.methodLink "HeapStepsLaw" (73 : Nat) (⟨"HeapStepsModel", "left", "(II)J"⟩ : MethodName)) ∈ tb := List.mem_filter.mpr ⟨List.mem_of_getElem? (i := 514) (by decide +kernel), by decide +kernel⟩
theorem tw_515 : (Cond.instanceMethod (⟨"HeapStepsModel", "left", "(II)J"⟩ : MethodName)) ∈ tb := List.mem_filter.mpr ⟨List.mem_of_getElem? (i := 515) (by decide +kernel), by decide +kernel⟩
theorem tw_516 : (Cond.selects "HeapStepsModel" (⟨"HeapStepsModel", "left", "(II)J"⟩ : MethodName) (⟨"HeapStepsModel", "left", "(II)J"⟩ : MethodName)) ∈ tb := List.mem_filter.mpr ⟨List.mem_of_getElem? (i := 516) (by decide +kernel), by decide +kernel⟩
theorem tw_517 : (Cond.code (⟨"HeapStepsModel", "left", "(II)J"⟩ : MethodName) prog_6_method_27_code (3 : Nat) (Option.some FieldType.long)) ∈ tb := List.mem_filter.mpr ⟨List.mem_of_getElem? (i := 517) (by decide +kernel), by decide +kernel⟩
theorem tw_518 : (Cond.constantLong "HeapStepsModel" (148 : Nat) (-1 : Int64)) ∈ tb := List.mem_filter.mpr ⟨List.mem_of_getElem? (i := 518) (by decide +kernel), by decide +kernel⟩
theorem tw_519 : (Cond.methodLink "HeapStepsLaw" (78 : Nat) (⟨"HeapStepsModel", "wet", "(I)J"⟩ : MethodName)) ∈ tb := List.mem_filter.mpr ⟨List.mem_of_getElem? (i := 519) (by decide +kernel), by decide +kernel⟩
theorem tw_520 : (Cond.instanceMethod (⟨"HeapStepsModel", "wet", "(I)J"⟩ : MethodName)) ∈ tb := List.mem_filter.mpr ⟨List.mem_of_getElem? (i := 520) (by decide +kernel), by decide +kernel⟩
theorem tw_521 : (Cond.selects "HeapStepsModel" (⟨"HeapStepsModel", "wet", "(I)J"⟩ : MethodName) (⟨"HeapStepsModel", "wet", "(I)J"⟩ : MethodName)) ∈ tb := List.mem_filter.mpr ⟨List.mem_of_getElem? (i := 521) (by decide +kernel), by decide +kernel⟩
theorem tw_522 : (Cond.code (⟨"HeapStepsModel", "wet", "(I)J"⟩ : MethodName) prog_6_method_28_code (2 : Nat) (Option.some FieldType.long)) ∈ tb := List.mem_filter.mpr ⟨List.mem_of_getElem? (i := 522) (by decide +kernel), by decide +kernel⟩
theorem tw_523 : (Cond.methodLink "HeapStepsLaw" (82 : Nat) (⟨"HeapStepsModel", "warmth", "(I)J"⟩ : MethodName)) ∈ tb := List.mem_filter.mpr ⟨List.mem_of_getElem? (i := 523) (by decide +kernel), by decide +kernel⟩
theorem tw_524 : (Cond.instanceMethod (⟨"HeapStepsModel", "warmth", "(I)J"⟩ : MethodName)) ∈ tb := List.mem_filter.mpr ⟨List.mem_of_getElem? (i := 524) (by decide +kernel), by decide +kernel⟩
theorem tw_525 : (Cond.selects "HeapStepsModel" (⟨"HeapStepsModel", "warmth", "(I)J"⟩ : MethodName) (⟨"HeapStepsModel", "warmth", "(I)J"⟩ : MethodName)) ∈ tb := List.mem_filter.mpr ⟨List.mem_of_getElem? (i := 525) (by decide +kernel), by decide +kernel⟩
theorem tw_526 : (Cond.code (⟨"HeapStepsModel", "warmth", "(I)J"⟩ : MethodName) prog_6_method_29_code (2 : Nat) (Option.some FieldType.long)) ∈ tb := List.mem_filter.mpr ⟨List.mem_of_getElem? (i := 526) (by decide +kernel), by decide +kernel⟩
theorem tw_527 : (Cond.methodLink "HeapStepsLaw" (87 : Nat) (⟨"HeapStepsModel", "air", "()I"⟩ : MethodName)) ∈ tb := List.mem_filter.mpr ⟨List.mem_of_getElem? (i := 527) (by decide +kernel), by decide +kernel⟩
theorem tw_528 : (Cond.instanceMethod (⟨"HeapStepsModel", "air", "()I"⟩ : MethodName)) ∈ tb := List.mem_filter.mpr ⟨List.mem_of_getElem? (i := 528) (by decide +kernel), by decide +kernel⟩
theorem tw_529 : (Cond.selects "HeapStepsModel" (⟨"HeapStepsModel", "air", "()I"⟩ : MethodName) (⟨"HeapStepsModel", "air", "()I"⟩ : MethodName)) ∈ tb := List.mem_filter.mpr ⟨List.mem_of_getElem? (i := 529) (by decide +kernel), by decide +kernel⟩
theorem tw_530 : (Cond.code (⟨"HeapStepsModel", "air", "()I"⟩ : MethodName) prog_6_method_30_code (1 : Nat) (Option.some FieldType.int)) ∈ tb := List.mem_filter.mpr ⟨List.mem_of_getElem? (i := 530) (by decide +kernel), by decide +kernel⟩
theorem tw_531 : (Cond.methodLink "HeapStepsLaw" (91 : Nat) (⟨"HeapStepsModel", "turn", "()I"⟩ : MethodName)) ∈ tb := List.mem_filter.mpr ⟨List.mem_of_getElem? (i := 531) (by decide +kernel), by decide +kernel⟩
theorem tw_532 : (Cond.instanceMethod (⟨"HeapStepsModel", "turn", "()I"⟩ : MethodName)) ∈ tb := List.mem_filter.mpr ⟨List.mem_of_getElem? (i := 532) (by decide +kernel), by decide +kernel⟩
theorem tw_533 : (Cond.selects "HeapStepsModel" (⟨"HeapStepsModel", "turn", "()I"⟩ : MethodName) (⟨"HeapStepsModel", "turn", "()I"⟩ : MethodName)) ∈ tb := List.mem_filter.mpr ⟨List.mem_of_getElem? (i := 533) (by decide +kernel), by decide +kernel⟩
theorem tw_534 : (Cond.code (⟨"HeapStepsModel", "turn", "()I"⟩ : MethodName) prog_6_method_32_code (6 : Nat) (Option.some FieldType.int)) ∈ tb := List.mem_filter.mpr ⟨List.mem_of_getElem? (i := 534) (by decide +kernel), by decide +kernel⟩
theorem tw_535 : (Cond.methodLink "HeapStepsModel" (150 : Nat) (⟨"HeapStepsModel", "shareOf", "(JI)J"⟩ : MethodName)) ∈ tb := List.mem_filter.mpr ⟨List.mem_of_getElem? (i := 535) (by decide +kernel), by decide +kernel⟩
theorem tw_537 : (Cond.instanceMethod (⟨"HeapStepsModel", "shareOf", "(JI)J"⟩ : MethodName)) ∈ tb := List.mem_filter.mpr ⟨List.mem_of_getElem? (i := 537) (by decide +kernel), by decide +kernel⟩
theorem tw_538 : (Cond.code (⟨"HeapStepsModel", "shareOf", "(JI)J"⟩ : MethodName) prog_6_method_31_code (4 : Nat) (Option.some FieldType.long)) ∈ tb := List.mem_filter.mpr ⟨List.mem_of_getElem? (i := 538) (by decide +kernel), by decide +kernel⟩
theorem tw_539 : (Cond.methodLink "HeapStepsLaw" (95 : Nat) (⟨"HeapStepsModel", "gone", "(I)J"⟩ : MethodName)) ∈ tb := List.mem_filter.mpr ⟨List.mem_of_getElem? (i := 539) (by decide +kernel), by decide +kernel⟩
theorem tw_540 : (Cond.instanceMethod (⟨"HeapStepsModel", "gone", "(I)J"⟩ : MethodName)) ∈ tb := List.mem_filter.mpr ⟨List.mem_of_getElem? (i := 540) (by decide +kernel), by decide +kernel⟩
theorem tw_541 : (Cond.selects "HeapStepsModel" (⟨"HeapStepsModel", "gone", "(I)J"⟩ : MethodName) (⟨"HeapStepsModel", "gone", "(I)J"⟩ : MethodName)) ∈ tb := List.mem_filter.mpr ⟨List.mem_of_getElem? (i := 541) (by decide +kernel), by decide +kernel⟩
theorem tw_542 : (Cond.code (⟨"HeapStepsModel", "gone", "(I)J"⟩ : MethodName) prog_6_method_33_code (2 : Nat) (Option.some FieldType.long)) ∈ tb := List.mem_filter.mpr ⟨List.mem_of_getElem? (i := 542) (by decide +kernel), by decide +kernel⟩
theorem tw_543 : (Cond.constantLong "HeapStepsModel" (157 : Nat) (8 : Int64)) ∈ tb := List.mem_filter.mpr ⟨List.mem_of_getElem? (i := 543) (by decide +kernel), by decide +kernel⟩
theorem tw_544 : (Cond.methodLink "HeapStepsLaw" (99 : Nat) (⟨"HeapStepsModel", "balance", "(I)J"⟩ : MethodName)) ∈ tb := List.mem_filter.mpr ⟨List.mem_of_getElem? (i := 544) (by decide +kernel), by decide +kernel⟩
theorem tw_545 : (Cond.instanceMethod (⟨"HeapStepsModel", "balance", "(I)J"⟩ : MethodName)) ∈ tb := List.mem_filter.mpr ⟨List.mem_of_getElem? (i := 545) (by decide +kernel), by decide +kernel⟩
theorem tw_546 : (Cond.selects "HeapStepsModel" (⟨"HeapStepsModel", "balance", "(I)J"⟩ : MethodName) (⟨"HeapStepsModel", "balance", "(I)J"⟩ : MethodName)) ∈ tb := List.mem_filter.mpr ⟨List.mem_of_getElem? (i := 546) (by decide +kernel), by decide +kernel⟩
theorem tw_547 : (Cond.code (⟨"HeapStepsModel", "balance", "(I)J"⟩ : MethodName) prog_6_method_35_code (4 : Nat) (Option.some FieldType.long)) ∈ tb := List.mem_filter.mpr ⟨List.mem_of_getElem? (i := 547) (by decide +kernel), by decide +kernel⟩
theorem tw_548 : (Cond.constantLong "HeapStepsModel" (159 : Nat) (2 : Int64)) ∈ tb := List.mem_filter.mpr ⟨List.mem_of_getElem? (i := 548) (by decide +kernel), by decide +kernel⟩
theorem tw_549 : (Cond.methodLink "HeapStepsModel" (161 : Nat) (⟨"HeapStepsModel", "there", "(I)J"⟩ : MethodName)) ∈ tb := List.mem_filter.mpr ⟨List.mem_of_getElem? (i := 549) (by decide +kernel), by decide +kernel⟩
theorem tw_551 : (Cond.instanceMethod (⟨"HeapStepsModel", "there", "(I)J"⟩ : MethodName)) ∈ tb := List.mem_filter.mpr ⟨List.mem_of_getElem? (i := 551) (by decide +kernel), by decide +kernel⟩
theorem tw_552 : (Cond.code (⟨"HeapStepsModel", "there", "(I)J"⟩ : MethodName) prog_6_method_34_code (5 : Nat) (Option.some FieldType.long)) ∈ tb := List.mem_filter.mpr ⟨List.mem_of_getElem? (i := 552) (by decide +kernel), by decide +kernel⟩
theorem tw_553 : (Cond.methodLink "HeapStepsLaw" (104 : Nat) (⟨"HeapStepsModel", "batch", "()J"⟩ : MethodName)) ∈ tb := List.mem_filter.mpr ⟨List.mem_of_getElem? (i := 553) (by decide +kernel), by decide +kernel⟩
theorem tw_554 : (Cond.instanceMethod (⟨"HeapStepsModel", "batch", "()J"⟩ : MethodName)) ∈ tb := List.mem_filter.mpr ⟨List.mem_of_getElem? (i := 554) (by decide +kernel), by decide +kernel⟩
theorem tw_555 : (Cond.selects "HeapStepsModel" (⟨"HeapStepsModel", "batch", "()J"⟩ : MethodName) (⟨"HeapStepsModel", "batch", "()J"⟩ : MethodName)) ∈ tb := List.mem_filter.mpr ⟨List.mem_of_getElem? (i := 555) (by decide +kernel), by decide +kernel⟩
theorem tw_556 : (Cond.code (⟨"HeapStepsModel", "batch", "()J"⟩ : MethodName) prog_6_method_36_code (5 : Nat) (Option.some FieldType.long)) ∈ tb := List.mem_filter.mpr ⟨List.mem_of_getElem? (i := 556) (by decide +kernel), by decide +kernel⟩
theorem in_X : ∀ w ∈ u_ws "HeapSteps" T_X 10, w ∈ tb := by
  intro w hw
  obtain ⟨k, hk, rfl⟩ := List.mem_map.mp hw
  have hk := List.mem_range.mp hk
  match k, hk with
  | 0, _ => exact tw_126
  | 1, _ => exact tw_128
  | 2, _ => exact tw_130
  | 3, _ => exact tw_132
  | 4, _ => exact tw_134
  | 5, _ => exact tw_136
  | 6, _ => exact tw_138
  | 7, _ => exact tw_140
  | 8, _ => exact tw_142
  | 9, _ => exact tw_144
  | k + 10, h => exact absurd h (by omega)
theorem in_F : ∀ w ∈ u_ws "HeapSteps$Fan" T_F 6, w ∈ tb := by
  intro w hw
  obtain ⟨k, hk, rfl⟩ := List.mem_map.mp hw
  have hk := List.mem_range.mp hk
  match k, hk with
  | 0, _ => exact tw_53
  | 1, _ => exact tw_55
  | 2, _ => exact tw_57
  | 3, _ => exact tw_59
  | 4, _ => exact tw_61
  | 5, _ => exact tw_63
  | k + 6, h => exact absurd h (by omega)
theorem in_K : ∀ w ∈ u_ws "HeapSteps$Kind" T_K 5, w ∈ tb := by
  intro w hw
  obtain ⟨k, hk, rfl⟩ := List.mem_map.mp hw
  have hk := List.mem_range.mp hk
  match k, hk with
  | 0, _ => exact tw_104
  | 1, _ => exact tw_106
  | 2, _ => exact tw_108
  | 3, _ => exact tw_110
  | 4, _ => exact tw_112
  | k + 5, h => exact absurd h (by omega)
theorem in_Y : ∀ w ∈ u_ws "HeapSteps$Layer" T_Y 3, w ∈ tb := by
  intro w hw
  obtain ⟨k, hk, rfl⟩ := List.mem_map.mp hw
  have hk := List.mem_range.mp hk
  match k, hk with
  | 0, _ => exact tw_84
  | 1, _ => exact tw_86
  | 2, _ => exact tw_88
  | k + 3, h => exact absurd h (by omega)
theorem in_M : ∀ w ∈ u_ws "HeapStepsModel" T_M 24, w ∈ tb := by
  intro w hw
  obtain ⟨k, hk, rfl⟩ := List.mem_map.mp hw
  have hk := List.mem_range.mp hk
  match k, hk with
  | 0, _ => exact tw_365
  | 1, _ => exact tw_367
  | 2, _ => exact tw_369
  | 3, _ => exact tw_371
  | 4, _ => exact tw_373
  | 5, _ => exact tw_375
  | 6, _ => exact tw_377
  | 7, _ => exact tw_379
  | 8, _ => exact tw_381
  | 9, _ => exact tw_383
  | 10, _ => exact tw_385
  | 11, _ => exact tw_387
  | 12, _ => exact tw_389
  | 13, _ => exact tw_391
  | 14, _ => exact tw_393
  | 15, _ => exact tw_395
  | 16, _ => exact tw_397
  | 17, _ => exact tw_399
  | 18, _ => exact tw_401
  | 19, _ => exact tw_403
  | 20, _ => exact tw_405
  | 21, _ => exact tw_407
  | 22, _ => exact tw_409
  | 23, _ => exact tw_411
  | k + 24, h => exact absurd h (by omega)
/-- what the tables say of nest mates and of arrays of objects -/
def wN (U : State) : Prop := va_Nw (Cond.methodLinkNest "HeapSteps" (17 : Nat) (⟨"HeapSteps$Fan", "<init>", "()V"⟩ : MethodName) "HeapSteps") U ∧ va_Nw (Cond.methodLinkNest "HeapSteps" (56 : Nat) (⟨"HeapSteps$Layer", "<init>", "()V"⟩ : MethodName) "HeapSteps") U ∧ va_Nw (Cond.methodLinkNest "HeapSteps" (57 : Nat) (⟨"HeapSteps$Kind", "<init>", "()V"⟩ : MethodName) "HeapSteps") U ∧ va_Nw (Cond.methodLinkNest "HeapSteps$Fan" (36 : Nat) (⟨"HeapSteps", "cut", "(JJJ)J"⟩ : MethodName) "HeapSteps") U ∧ va_AO "HeapSteps$Kind" U ∧ va_AO "HeapSteps$Layer" U
theorem wN_of {A : Array Value} {U : State} (h : ∀ w ∈ lw_tbl, w.before A U = true) : wN U := ⟨va_Nw.of rfl (h _ tn_42), va_Nw.of rfl (h _ tn_73), va_Nw.of rfl (h _ tn_93), va_Nw.of rfl (h _ tn_278), va_AO.of (h _ tn_39), va_AO.of (h _ tn_71)⟩
theorem wN.warm {s U : State} (hW : s.WarmedH U.vm) (h : wN s) : wN U := by
  obtain ⟨h0, h1, h2, h3, h4, h5⟩ := h
  exact ⟨va_Nw.warmM hW h0, va_Nw.warmM hW h1, va_Nw.warmM hW h2, va_Nw.warmM hW h3, va_AO.moved hW.alike h4, va_AO.moved hW.alike h5⟩
theorem wN.same {u U : State} (h : u.vm = U.vm) (hn : wN u) : wN U := by
  obtain ⟨h0, h1, h2, h3, h4, h5⟩ := hn
  exact ⟨va_tabs rfl h h0, va_tabs rfl h h1, va_tabs rfl h h2, va_tabs rfl h h3, va_AO.moved (h ▸ Vm.Alike.refl _) h4, va_AO.moved (h ▸ Vm.Alike.refl _) h5⟩
theorem wN_42 {U : State} (h : wN U) : va_Nw (Cond.methodLinkNest "HeapSteps" (17 : Nat) (⟨"HeapSteps$Fan", "<init>", "()V"⟩ : MethodName) "HeapSteps") U := h.1
theorem wN_73 {U : State} (h : wN U) : va_Nw (Cond.methodLinkNest "HeapSteps" (56 : Nat) (⟨"HeapSteps$Layer", "<init>", "()V"⟩ : MethodName) "HeapSteps") U := h.2.1
theorem wN_93 {U : State} (h : wN U) : va_Nw (Cond.methodLinkNest "HeapSteps" (57 : Nat) (⟨"HeapSteps$Kind", "<init>", "()V"⟩ : MethodName) "HeapSteps") U := h.2.2.1
theorem wN_278 {U : State} (h : wN U) : va_Nw (Cond.methodLinkNest "HeapSteps$Fan" (36 : Nat) (⟨"HeapSteps", "cut", "(JJJ)J"⟩ : MethodName) "HeapSteps") U := h.2.2.2.1
theorem wN_39 {U : State} (h : wN U) : va_AO "HeapSteps$Kind" U := h.2.2.2.2.1
theorem wN_71 {U : State} (h : wN U) : va_AO "HeapSteps$Layer" U := h.2.2.2.2.2
theorem tb_good : ∀ w ∈ tb, goodWord w = true := fun _ h => (List.mem_filter.mp h).2
def y_X_init : MethodName := ⟨"HeapSteps", "<init>", "(I)V"⟩
abbrev b_X_init : ByteArray := prog_1_method_1_code
abbrev ws_X_init : List Cond := Cond.code y_X_init b_X_init 4 none :: tb
def y_F_init : MethodName := ⟨"HeapSteps$Fan", "<init>", "()V"⟩
abbrev b_F_init : ByteArray := prog_2_method_1_code
abbrev ws_F_init : List Cond := Cond.code y_F_init b_F_init 1 none :: tb
def y_X_within : MethodName := ⟨"HeapSteps", "within", "(III)Z"⟩
abbrev b_X_within : ByteArray := prog_1_method_21_code
abbrev ws_X_within : List Cond := Cond.code y_X_within b_X_within 3 (some .boolean) :: tb
def y_Y_init : MethodName := ⟨"HeapSteps$Layer", "<init>", "()V"⟩
abbrev b_Y_init : ByteArray := prog_4_method_1_code
abbrev ws_Y_init : List Cond := Cond.code y_Y_init b_Y_init 1 none :: tb
def y_K_init : MethodName := ⟨"HeapSteps$Kind", "<init>", "()V"⟩
abbrev b_K_init : ByteArray := prog_3_method_1_code
abbrev ws_K_init : List Cond := Cond.code y_K_init b_K_init 1 none :: tb
def y_X_part : MethodName := ⟨"HeapSteps", "part", "(III)Z"⟩
abbrev b_X_part : ByteArray := prog_1_method_2_code
abbrev ws_X_part : List Cond := Cond.code y_X_part b_X_part 4 (some .boolean) :: tb
def y_X_isPart : MethodName := ⟨"HeapSteps", "isPart", "(I)Z"⟩
abbrev b_X_isPart : ByteArray := prog_1_method_22_code
abbrev ws_X_isPart : List Cond := Cond.code y_X_isPart b_X_isPart 1 (some .boolean) :: tb
def y_X_layerAt : MethodName := ⟨"HeapSteps", "layerAt", "(I)LHeapSteps$Layer;"⟩
abbrev b_X_layerAt : ByteArray := prog_1_method_25_code
abbrev ws_X_layerAt : List Cond := Cond.code y_X_layerAt b_X_layerAt 2 (some (.object "HeapSteps$Layer")) :: tb
def y_X_bring : MethodName := ⟨"HeapSteps", "bring", "(LHeapSteps$Layer;IIJ)Z"⟩
abbrev b_X_bring : ByteArray := prog_1_method_26_code
abbrev ws_X_bring : List Cond := Cond.code y_X_bring b_X_bring 6 (some .boolean) :: tb
def y_X_water : MethodName := ⟨"HeapSteps", "water", "(II)Z"⟩
abbrev b_X_water : ByteArray := prog_1_method_3_code
abbrev ws_X_water : List Cond := Cond.code y_X_water b_X_water 3 (some .boolean) :: tb
def y_X_heat : MethodName := ⟨"HeapSteps", "heat", "(II)Z"⟩
abbrev b_X_heat : ByteArray := prog_1_method_4_code
abbrev ws_X_heat : List Cond := Cond.code y_X_heat b_X_heat 3 (some .boolean) :: tb
def y_X_rate : MethodName := ⟨"HeapSteps", "rate", "(III)Z"⟩
abbrev b_X_rate : ByteArray := prog_1_method_5_code
abbrev ws_X_rate : List Cond := Cond.code y_X_rate b_X_rate 4 (some .boolean) :: tb
def y_K_addRow : MethodName := ⟨"HeapSteps$Kind", "addRow", "(II)Z"⟩
abbrev b_K_addRow : ByteArray := prog_3_method_2_code
abbrev ws_K_addRow : List Cond := Cond.code y_K_addRow b_K_addRow 3 (some .boolean) :: tb
def y_X_yields : MethodName := ⟨"HeapSteps", "yields", "(III)Z"⟩
abbrev b_X_yields : ByteArray := prog_1_method_6_code
abbrev ws_X_yields : List Cond := Cond.code y_X_yields b_X_yields 4 (some .boolean) :: tb
def y_X_bounds : MethodName := ⟨"HeapSteps", "bounds", "(III)Z"⟩
abbrev b_X_bounds : ByteArray := prog_1_method_7_code
abbrev ws_X_bounds : List Cond := Cond.code y_X_bounds b_X_bounds 5 (some .boolean) :: tb
def y_X_rain : MethodName := ⟨"HeapSteps", "rain", "(I)Z"⟩
abbrev b_X_rain : ByteArray := prog_1_method_8_code
abbrev ws_X_rain : List Cond := Cond.code y_X_rain b_X_rain 2 (some .boolean) :: tb
def y_X_loss : MethodName := ⟨"HeapSteps", "loss", "(I)Z"⟩
abbrev b_X_loss : ByteArray := prog_1_method_9_code
abbrev ws_X_loss : List Cond := Cond.code y_X_loss b_X_loss 2 (some .boolean) :: tb
def y_X_fan : MethodName := ⟨"HeapSteps", "fan", "(III)Z"⟩
abbrev b_X_fan : ByteArray := prog_1_method_10_code
abbrev ws_X_fan : List Cond := Cond.code y_X_fan b_X_fan 4 (some .boolean) :: tb
def y_F_tell : MethodName := ⟨"HeapSteps$Fan", "tell", "(III)V"⟩
abbrev b_F_tell : ByteArray := prog_2_method_2_code
abbrev ws_F_tell : List Cond := Cond.code y_F_tell b_F_tell 4 none :: tb
def y_X_limit : MethodName := ⟨"HeapSteps", "limit", "(I)Z"⟩
abbrev b_X_limit : ByteArray := prog_1_method_11_code
abbrev ws_X_limit : List Cond := Cond.code y_X_limit b_X_limit 2 (some .boolean) :: tb
def y_X_run : MethodName := ⟨"HeapSteps", "run", "(I)I"⟩
abbrev b_X_run : ByteArray := prog_1_method_12_code
abbrev ws_X_run : List Cond := Cond.code y_X_run b_X_run 3 (some .int) :: tb
def y_X_greatestWarmth : MethodName := ⟨"HeapSteps", "greatestWarmth", "()J"⟩
abbrev b_X_greatestWarmth : ByteArray := prog_1_method_27_code
abbrev ws_X_greatestWarmth : List Cond := Cond.code y_X_greatestWarmth b_X_greatestWarmth 7 (some .long) :: tb
def y_Y_warmthNow : MethodName := ⟨"HeapSteps$Layer", "warmthNow", "()J"⟩
abbrev b_Y_warmthNow : ByteArray := prog_4_method_3_code
abbrev ws_Y_warmthNow : List Cond := Cond.code y_Y_warmthNow b_Y_warmthNow 3 (some .long) :: tb
def y_Y_mass : MethodName := ⟨"HeapSteps$Layer", "mass", "()J"⟩
abbrev b_Y_mass : ByteArray := prog_4_method_2_code
abbrev ws_Y_mass : List Cond := Cond.code y_Y_mass b_Y_mass 4 (some .long) :: tb
def y_J_max : MethodName := ⟨"java/lang/Math", "max", "(JJ)J"⟩
abbrev b_J_max : ByteArray := prog_7_method_66_code
abbrev ws_J_max : List Cond := Cond.code y_J_max b_J_max 4 (some .long) :: tb
def y_X_passMinute : MethodName := ⟨"HeapSteps", "passMinute", "()V"⟩
abbrev b_X_passMinute : ByteArray := prog_1_method_28_code
abbrev ws_X_passMinute : List Cond := Cond.code y_X_passMinute b_X_passMinute 3 none :: tb
def y_X_pour : MethodName := ⟨"HeapSteps", "pour", "(JI)V"⟩
abbrev b_X_pour : ByteArray := prog_1_method_29_code
abbrev ws_X_pour : List Cond := Cond.code y_X_pour b_X_pour 5 none :: tb
def y_X_breakParts : MethodName := ⟨"HeapSteps", "breakParts", "(LHeapSteps$Layer;)V"⟩
abbrev b_X_breakParts : ByteArray := prog_1_method_30_code
abbrev ws_X_breakParts : List Cond := Cond.code y_X_breakParts b_X_breakParts 5 none :: tb
def y_X_breakPart : MethodName := ⟨"HeapSteps", "breakPart", "(LHeapSteps$Layer;IJ)V"⟩
abbrev b_X_breakPart : ByteArray := prog_1_method_31_code
abbrev ws_X_breakPart : List Cond := Cond.code y_X_breakPart b_X_breakPart 12 none :: tb
def y_K_millionthsAt : MethodName := ⟨"HeapSteps$Kind", "millionthsAt", "(J)I"⟩
abbrev b_K_millionthsAt : ByteArray := prog_3_method_3_code
abbrev ws_K_millionthsAt : List Cond := Cond.code y_K_millionthsAt b_K_millionthsAt 5 (some .int) :: tb
def y_X_millionthsOf : MethodName := ⟨"HeapSteps", "millionthsOf", "(JJ)J"⟩
abbrev b_X_millionthsOf : ByteArray := prog_1_method_23_code
abbrev ws_X_millionthsOf : List Cond := Cond.code y_X_millionthsOf b_X_millionthsOf 4 (some .long) :: tb
def y_X_loseHeat : MethodName := ⟨"HeapSteps", "loseHeat", "(LHeapSteps$Layer;)V"⟩
abbrev b_X_loseHeat : ByteArray := prog_1_method_32_code
abbrev ws_X_loseHeat : List Cond := Cond.code y_X_loseHeat b_X_loseHeat 4 none :: tb
def y_X_driveOff : MethodName := ⟨"HeapSteps", "driveOff", "(LHeapSteps$Layer;)V"⟩
abbrev b_X_driveOff : ByteArray := prog_1_method_33_code
abbrev ws_X_driveOff : List Cond := Cond.code y_X_driveOff b_X_driveOff 6 none :: tb
def y_J_min : MethodName := ⟨"java/lang/Math", "min", "(JJ)J"⟩
abbrev b_J_min : ByteArray := prog_7_method_70_code
abbrev ws_J_min : List Cond := Cond.code y_J_min b_J_min 4 (some .long) :: tb
def y_Y_takeSurplus : MethodName := ⟨"HeapSteps$Layer", "takeSurplus", "()J"⟩
abbrev b_Y_takeSurplus : ByteArray := prog_4_method_4_code
abbrev ws_Y_takeSurplus : List Cond := Cond.code y_Y_takeSurplus b_Y_takeSurplus 3 (some .long) :: tb
def y_F_adjust : MethodName := ⟨"HeapSteps$Fan", "adjust", "(J)V"⟩
abbrev b_F_adjust : ByteArray := prog_2_method_3_code
abbrev ws_F_adjust : List Cond := Cond.code y_F_adjust b_F_adjust 5 none :: tb
def y_X_cut : MethodName := ⟨"HeapSteps", "cut", "(JJJ)J"⟩
abbrev b_X_cut : ByteArray := prog_1_method_24_code
abbrev ws_X_cut : List Cond := Cond.code y_X_cut b_X_cut 6 (some .long) :: tb
def y_J_floorDiv : MethodName := ⟨"java/lang/Math", "floorDiv", "(JJ)J"⟩
abbrev b_J_floorDiv : ByteArray := prog_7_method_49_code
abbrev ws_J_floorDiv : List Cond := Cond.code y_J_floorDiv b_J_floorDiv 6 (some .long) :: tb
def y_X_left : MethodName := ⟨"HeapSteps", "left", "(II)J"⟩
abbrev b_X_left : ByteArray := prog_1_method_13_code
abbrev ws_X_left : List Cond := Cond.code y_X_left b_X_left 4 (some .long) :: tb
def y_X_wet : MethodName := ⟨"HeapSteps", "wet", "(I)J"⟩
abbrev b_X_wet : ByteArray := prog_1_method_14_code
abbrev ws_X_wet : List Cond := Cond.code y_X_wet b_X_wet 3 (some .long) :: tb
def y_X_warmth : MethodName := ⟨"HeapSteps", "warmth", "(I)J"⟩
abbrev b_X_warmth : ByteArray := prog_1_method_15_code
abbrev ws_X_warmth : List Cond := Cond.code y_X_warmth b_X_warmth 3 (some .long) :: tb
def y_X_air : MethodName := ⟨"HeapSteps", "air", "()I"⟩
abbrev b_X_air : ByteArray := prog_1_method_16_code
abbrev ws_X_air : List Cond := Cond.code y_X_air b_X_air 1 (some .int) :: tb
def y_X_turn : MethodName := ⟨"HeapSteps", "turn", "()I"⟩
abbrev b_X_turn : ByteArray := prog_1_method_17_code
abbrev ws_X_turn : List Cond := Cond.code y_X_turn b_X_turn 2 (some .int) :: tb
def y_X_shareOut : MethodName := ⟨"HeapSteps", "shareOut", "(I)V"⟩
abbrev b_X_shareOut : ByteArray := prog_1_method_35_code
abbrev ws_X_shareOut : List Cond := Cond.code y_X_shareOut b_X_shareOut 10 none :: tb
def y_X_inAllLayers : MethodName := ⟨"HeapSteps", "inAllLayers", "(I)J"⟩
abbrev b_X_inAllLayers : ByteArray := prog_1_method_34_code
abbrev ws_X_inAllLayers : List Cond := Cond.code y_X_inAllLayers b_X_inAllLayers 8 (some .long) :: tb
def y_X_gone : MethodName := ⟨"HeapSteps", "gone", "(I)J"⟩
abbrev b_X_gone : ByteArray := prog_1_method_18_code
abbrev ws_X_gone : List Cond := Cond.code y_X_gone b_X_gone 2 (some .long) :: tb
def y_X_balance : MethodName := ⟨"HeapSteps", "balance", "(I)J"⟩
abbrev b_X_balance : ByteArray := prog_1_method_19_code
abbrev ws_X_balance : List Cond := Cond.code y_X_balance b_X_balance 2 (some .long) :: tb
def y_X_putInLessThere : MethodName := ⟨"HeapSteps", "putInLessThere", "(I)J"⟩
abbrev b_X_putInLessThere : ByteArray := prog_1_method_36_code
abbrev ws_X_putInLessThere : List Cond := Cond.code y_X_putInLessThere b_X_putInLessThere 2 (some .long) :: tb
def y_X_batch : MethodName := ⟨"HeapSteps", "batch", "()J"⟩
abbrev b_X_batch : ByteArray := prog_1_method_20_code
abbrev ws_X_batch : List Cond := Cond.code y_X_batch b_X_batch 8 (some .long) :: tb
def y_L_cell : MethodName := ⟨"HeapStepsLaw", "cell", "([II)I"⟩
abbrev b_L_cell : ByteArray := method_2_code
abbrev ws_L_cell : List Cond := Cond.code y_L_cell b_L_cell 2 (some .int) :: tb
def y_M_init : MethodName := ⟨"HeapStepsModel", "<init>", "(I)V"⟩
abbrev b_M_init : ByteArray := prog_6_method_1_code
abbrev ws_M_init : List Cond := Cond.code y_M_init b_M_init 3 none :: tb
def y_M_part : MethodName := ⟨"HeapStepsModel", "part", "(III)Z"⟩
abbrev b_M_part : ByteArray := prog_6_method_6_code
abbrev ws_M_part : List Cond := Cond.code y_M_part b_M_part 4 (some .boolean) :: tb
def y_M_isLayer : MethodName := ⟨"HeapStepsModel", "isLayer", "(I)Z"⟩
abbrev b_M_isLayer : ByteArray := prog_6_method_4_code
abbrev ws_M_isLayer : List Cond := Cond.code y_M_isLayer b_M_isLayer 2 (some .boolean) :: tb
def y_M_isPart : MethodName := ⟨"HeapStepsModel", "isPart", "(I)Z"⟩
abbrev b_M_isPart : ByteArray := prog_6_method_5_code
abbrev ws_M_isPart : List Cond := Cond.code y_M_isPart b_M_isPart 1 (some .boolean) :: tb
def y_M_isIn : MethodName := ⟨"HeapStepsModel", "isIn", "(JJJ)Z"⟩
abbrev b_M_isIn : ByteArray := prog_6_method_3_code
abbrev ws_M_isIn : List Cond := Cond.code y_M_isIn b_M_isIn 6 (some .boolean) :: tb
def y_M_water : MethodName := ⟨"HeapStepsModel", "water", "(II)Z"⟩
abbrev b_M_water : ByteArray := prog_6_method_7_code
abbrev ws_M_water : List Cond := Cond.code y_M_water b_M_water 3 (some .boolean) :: tb
def y_M_heat : MethodName := ⟨"HeapStepsModel", "heat", "(II)Z"⟩
abbrev b_M_heat : ByteArray := prog_6_method_8_code
abbrev ws_M_heat : List Cond := Cond.code y_M_heat b_M_heat 3 (some .boolean) :: tb
def y_M_rate : MethodName := ⟨"HeapStepsModel", "rate", "(III)Z"⟩
abbrev b_M_rate : ByteArray := prog_6_method_9_code
abbrev ws_M_rate : List Cond := Cond.code y_M_rate b_M_rate 5 (some .boolean) :: tb
def y_M_yields : MethodName := ⟨"HeapStepsModel", "yields", "(III)Z"⟩
abbrev b_M_yields : ByteArray := prog_6_method_10_code
abbrev ws_M_yields : List Cond := Cond.code y_M_yields b_M_yields 4 (some .boolean) :: tb
def y_M_bounds : MethodName := ⟨"HeapStepsModel", "bounds", "(III)Z"⟩
abbrev b_M_bounds : ByteArray := prog_6_method_11_code
abbrev ws_M_bounds : List Cond := Cond.code y_M_bounds b_M_bounds 4 (some .boolean) :: tb
def y_M_rain : MethodName := ⟨"HeapStepsModel", "rain", "(I)Z"⟩
abbrev b_M_rain : ByteArray := prog_6_method_12_code
abbrev ws_M_rain : List Cond := Cond.code y_M_rain b_M_rain 2 (some .boolean) :: tb
def y_M_loss : MethodName := ⟨"HeapStepsModel", "loss", "(I)Z"⟩
abbrev b_M_loss : ByteArray := prog_6_method_13_code
abbrev ws_M_loss : List Cond := Cond.code y_M_loss b_M_loss 2 (some .boolean) :: tb
def y_M_fan : MethodName := ⟨"HeapStepsModel", "fan", "(III)Z"⟩
abbrev b_M_fan : ByteArray := prog_6_method_14_code
abbrev ws_M_fan : List Cond := Cond.code y_M_fan b_M_fan 4 (some .boolean) :: tb
def y_M_limit : MethodName := ⟨"HeapStepsModel", "limit", "(I)Z"⟩
abbrev b_M_limit : ByteArray := prog_6_method_15_code
abbrev ws_M_limit : List Cond := Cond.code y_M_limit b_M_limit 2 (some .boolean) :: tb
def y_M_run : MethodName := ⟨"HeapStepsModel", "run", "(I)I"⟩
abbrev b_M_run : ByteArray := prog_6_method_26_code
abbrev ws_M_run : List Cond := Cond.code y_M_run b_M_run 3 (some .int) :: tb
def y_M_warmest : MethodName := ⟨"HeapStepsModel", "warmest", "()J"⟩
abbrev b_M_warmest : ByteArray := prog_6_method_24_code
abbrev ws_M_warmest : List Cond := Cond.code y_M_warmest b_M_warmest 4 (some .long) :: tb
def y_M_warmthOf : MethodName := ⟨"HeapStepsModel", "warmthOf", "(I)J"⟩
abbrev b_M_warmthOf : ByteArray := prog_6_method_18_code
abbrev ws_M_warmthOf : List Cond := Cond.code y_M_warmthOf b_M_warmthOf 2 (some .long) :: tb
def y_M_massOf : MethodName := ⟨"HeapStepsModel", "massOf", "(I)J"⟩
abbrev b_M_massOf : ByteArray := prog_6_method_17_code
abbrev ws_M_massOf : List Cond := Cond.code y_M_massOf b_M_massOf 5 (some .long) :: tb
def y_M_minute : MethodName := ⟨"HeapStepsModel", "minute", "()V"⟩
abbrev b_M_minute : ByteArray := prog_6_method_25_code
abbrev ws_M_minute : List Cond := Cond.code y_M_minute b_M_minute 4 none :: tb
def y_M_breaks : MethodName := ⟨"HeapStepsModel", "breaks", "(I)V"⟩
abbrev b_M_breaks : ByteArray := prog_6_method_20_code
abbrev ws_M_breaks : List Cond := Cond.code y_M_breaks b_M_breaks 11 none :: tb
def y_M_rateOf : MethodName := ⟨"HeapStepsModel", "rateOf", "(IJ)J"⟩
abbrev b_M_rateOf : ByteArray := prog_6_method_19_code
abbrev ws_M_rateOf : List Cond := Cond.code y_M_rateOf b_M_rateOf 7 (some .long) :: tb
def y_M_partOf : MethodName := ⟨"HeapStepsModel", "partOf", "(JJ)J"⟩
abbrev b_M_partOf : ByteArray := prog_6_method_16_code
abbrev ws_M_partOf : List Cond := Cond.code y_M_partOf b_M_partOf 4 (some .long) :: tb
def y_M_loses : MethodName := ⟨"HeapStepsModel", "loses", "(I)V"⟩
abbrev b_M_loses : ByteArray := prog_6_method_21_code
abbrev ws_M_loses : List Cond := Cond.code y_M_loses b_M_loses 8 none :: tb
def y_M_setFan : MethodName := ⟨"HeapStepsModel", "setFan", "()V"⟩
abbrev b_M_setFan : ByteArray := prog_6_method_23_code
abbrev ws_M_setFan : List Cond := Cond.code y_M_setFan b_M_setFan 7 none :: tb
def y_M_cut : MethodName := ⟨"HeapStepsModel", "cut", "(JJJ)J"⟩
abbrev b_M_cut : ByteArray := prog_6_method_22_code
abbrev ws_M_cut : List Cond := Cond.code y_M_cut b_M_cut 6 (some .long) :: tb
def y_M_left : MethodName := ⟨"HeapStepsModel", "left", "(II)J"⟩
abbrev b_M_left : ByteArray := prog_6_method_27_code
abbrev ws_M_left : List Cond := Cond.code y_M_left b_M_left 3 (some .long) :: tb
def y_M_wet : MethodName := ⟨"HeapStepsModel", "wet", "(I)J"⟩
abbrev b_M_wet : ByteArray := prog_6_method_28_code
abbrev ws_M_wet : List Cond := Cond.code y_M_wet b_M_wet 2 (some .long) :: tb
def y_M_warmth : MethodName := ⟨"HeapStepsModel", "warmth", "(I)J"⟩
abbrev b_M_warmth : ByteArray := prog_6_method_29_code
abbrev ws_M_warmth : List Cond := Cond.code y_M_warmth b_M_warmth 2 (some .long) :: tb
def y_M_air : MethodName := ⟨"HeapStepsModel", "air", "()I"⟩
abbrev b_M_air : ByteArray := prog_6_method_30_code
abbrev ws_M_air : List Cond := Cond.code y_M_air b_M_air 1 (some .int) :: tb
def y_M_turn : MethodName := ⟨"HeapStepsModel", "turn", "()I"⟩
abbrev b_M_turn : ByteArray := prog_6_method_32_code
abbrev ws_M_turn : List Cond := Cond.code y_M_turn b_M_turn 6 (some .int) :: tb
def y_M_shareOf : MethodName := ⟨"HeapStepsModel", "shareOf", "(JI)J"⟩
abbrev b_M_shareOf : ByteArray := prog_6_method_31_code
abbrev ws_M_shareOf : List Cond := Cond.code y_M_shareOf b_M_shareOf 4 (some .long) :: tb
def y_M_gone : MethodName := ⟨"HeapStepsModel", "gone", "(I)J"⟩
abbrev b_M_gone : ByteArray := prog_6_method_33_code
abbrev ws_M_gone : List Cond := Cond.code y_M_gone b_M_gone 2 (some .long) :: tb
def y_M_balance : MethodName := ⟨"HeapStepsModel", "balance", "(I)J"⟩
abbrev b_M_balance : ByteArray := prog_6_method_35_code
abbrev ws_M_balance : List Cond := Cond.code y_M_balance b_M_balance 4 (some .long) :: tb
def y_M_there : MethodName := ⟨"HeapStepsModel", "there", "(I)J"⟩
abbrev b_M_there : ByteArray := prog_6_method_34_code
abbrev ws_M_there : List Cond := Cond.code y_M_there b_M_there 5 (some .long) :: tb
def y_M_batch : MethodName := ⟨"HeapStepsModel", "batch", "()J"⟩
abbrev b_M_batch : ByteArray := prog_6_method_36_code
abbrev ws_M_batch : List Cond := Cond.code y_M_batch b_M_batch 5 (some .long) :: tb
end
section
theorem d_X_init_0 : decode b_X_init 0 = .ok (.aload_n 0, 1) := by decide +kernel
theorem d_X_init_1 : decode b_X_init 1 = .ok (.invokespecial 1, 3) := by decide +kernel
theorem d_X_init_4 : decode b_X_init 4 = .ok (.aload_n 0, 1) := by decide +kernel
theorem d_X_init_5 : decode b_X_init 5 = .ok (.iconst 3, 1) := by decide +kernel
theorem d_X_init_6 : decode b_X_init 6 = .ok (.anewarray 9, 3) := by decide +kernel
theorem d_X_init_9 : decode b_X_init 9 = .ok (.putfield 11, 3) := by decide +kernel
theorem d_X_init_12 : decode b_X_init 12 = .ok (.aload_n 0, 1) := by decide +kernel
theorem d_X_init_13 : decode b_X_init 13 = .ok (.new 15, 3) := by decide +kernel
theorem d_X_init_16 : decode b_X_init 16 = .ok (.dup, 1) := by decide +kernel
theorem d_X_init_17 : decode b_X_init 17 = .ok (.invokespecial 17, 3) := by decide +kernel
theorem d_X_init_20 : decode b_X_init 20 = .ok (.putfield 18, 3) := by decide +kernel
theorem d_X_init_23 : decode b_X_init 23 = .ok (.aload_n 0, 1) := by decide +kernel
theorem d_X_init_24 : decode b_X_init 24 = .ok (.bipush 9, 2) := by decide +kernel
theorem d_X_init_26 : decode b_X_init 26 = .ok (.newarray .long, 2) := by decide +kernel
theorem d_X_init_28 : decode b_X_init 28 = .ok (.putfield 22, 3) := by decide +kernel
theorem d_X_init_31 : decode b_X_init 31 = .ok (.aload_n 0, 1) := by decide +kernel
theorem d_X_init_32 : decode b_X_init 32 = .ok (.iconst 5, 1) := by decide +kernel
theorem d_X_init_33 : decode b_X_init 33 = .ok (.newarray .long, 2) := by decide +kernel
theorem d_X_init_35 : decode b_X_init 35 = .ok (.putfield 26, 3) := by decide +kernel
theorem d_X_init_38 : decode b_X_init 38 = .ok (.aload_n 0, 1) := by decide +kernel
theorem d_X_init_39 : decode b_X_init 39 = .ok (.iconst 5, 1) := by decide +kernel
theorem d_X_init_40 : decode b_X_init 40 = .ok (.newarray .long, 2) := by decide +kernel
theorem d_X_init_42 : decode b_X_init 42 = .ok (.putfield 29, 3) := by decide +kernel
theorem d_X_init_45 : decode b_X_init 45 = .ok (.aload_n 0, 1) := by decide +kernel
theorem d_X_init_46 : decode b_X_init 46 = .ok (.iconst 0, 1) := by decide +kernel
theorem d_X_init_47 : decode b_X_init 47 = .ok (.putfield 32, 3) := by decide +kernel
theorem d_X_init_50 : decode b_X_init 50 = .ok (.aload_n 0, 1) := by decide +kernel
theorem d_X_init_51 : decode b_X_init 51 = .ok (.iconst 0, 1) := by decide +kernel
theorem d_X_init_52 : decode b_X_init 52 = .ok (.putfield 36, 3) := by decide +kernel
theorem d_X_init_55 : decode b_X_init 55 = .ok (.aload_n 0, 1) := by decide +kernel
theorem d_X_init_56 : decode b_X_init 56 = .ok (.ldc 39, 2) := by decide +kernel
theorem d_X_init_58 : decode b_X_init 58 = .ok (.putfield 40, 3) := by decide +kernel
theorem d_X_init_61 : decode b_X_init 61 = .ok (.aload_n 0, 1) := by decide +kernel
theorem d_X_init_62 : decode b_X_init 62 = .ok (.iconst 0, 1) := by decide +kernel
theorem d_X_init_63 : decode b_X_init 63 = .ok (.putfield 43, 3) := by decide +kernel
theorem d_X_init_66 : decode b_X_init 66 = .ok (.iload_n 1, 1) := by decide +kernel
theorem d_X_init_67 : decode b_X_init 67 = .ok (.iconst 1, 1) := by decide +kernel
theorem d_X_init_68 : decode b_X_init 68 = .ok (.bipush 6, 2) := by decide +kernel
theorem d_X_init_70 : decode b_X_init 70 = .ok (.invokestatic 46, 3) := by decide +kernel
theorem d_X_init_73 : decode b_X_init 73 = .ok (.ifCond .eq 7, 3) := by decide +kernel
theorem d_X_init_76 : decode b_X_init 76 = .ok (.iload_n 1, 1) := by decide +kernel
theorem d_X_init_77 : decode b_X_init 77 = .ok (.goto 4, 3) := by decide +kernel
theorem d_X_init_80 : decode b_X_init 80 = .ok (.iconst 1, 1) := by decide +kernel
theorem d_X_init_81 : decode b_X_init 81 = .ok (.istore_n 2, 1) := by decide +kernel
theorem d_X_init_82 : decode b_X_init 82 = .ok (.aload_n 0, 1) := by decide +kernel
theorem d_X_init_83 : decode b_X_init 83 = .ok (.iload_n 2, 1) := by decide +kernel
theorem d_X_init_84 : decode b_X_init 84 = .ok (.anewarray 50, 3) := by decide +kernel
theorem d_X_init_87 : decode b_X_init 87 = .ok (.putfield 52, 3) := by decide +kernel
theorem d_X_init_90 : decode b_X_init 90 = .ok (.iconst 0, 1) := by decide +kernel
theorem d_X_init_91 : decode b_X_init 91 = .ok (.istore_n 3, 1) := by decide +kernel
theorem d_X_init_92 : decode b_X_init 92 = .ok (.iload_n 3, 1) := by decide +kernel
theorem d_X_init_93 : decode b_X_init 93 = .ok (.iload_n 2, 1) := by decide +kernel
theorem d_X_init_94 : decode b_X_init 94 = .ok (.if_icmp .ge 22, 3) := by decide +kernel
theorem d_X_init_97 : decode b_X_init 97 = .ok (.aload_n 0, 1) := by decide +kernel
theorem d_X_init_98 : decode b_X_init 98 = .ok (.getfield 52, 3) := by decide +kernel
theorem d_X_init_101 : decode b_X_init 101 = .ok (.iload_n 3, 1) := by decide +kernel
theorem d_X_init_102 : decode b_X_init 102 = .ok (.new 50, 3) := by decide +kernel
theorem d_X_init_105 : decode b_X_init 105 = .ok (.dup, 1) := by decide +kernel
theorem d_X_init_106 : decode b_X_init 106 = .ok (.invokespecial 56, 3) := by decide +kernel
theorem d_X_init_109 : decode b_X_init 109 = .ok (.aastore, 1) := by decide +kernel
theorem d_X_init_110 : decode b_X_init 110 = .ok (.iinc 3 1, 3) := by decide +kernel
theorem d_X_init_113 : decode b_X_init 113 = .ok (.goto (-21), 3) := by decide +kernel
theorem d_X_init_116 : decode b_X_init 116 = .ok (.iconst 0, 1) := by decide +kernel
theorem d_X_init_117 : decode b_X_init 117 = .ok (.istore_n 3, 1) := by decide +kernel
theorem d_X_init_118 : decode b_X_init 118 = .ok (.iload_n 3, 1) := by decide +kernel
theorem d_X_init_119 : decode b_X_init 119 = .ok (.iconst 3, 1) := by decide +kernel
theorem d_X_init_120 : decode b_X_init 120 = .ok (.if_icmp .ge 22, 3) := by decide +kernel
theorem d_X_init_123 : decode b_X_init 123 = .ok (.aload_n 0, 1) := by decide +kernel
theorem d_X_init_124 : decode b_X_init 124 = .ok (.getfield 11, 3) := by decide +kernel
theorem d_X_init_127 : decode b_X_init 127 = .ok (.iload_n 3, 1) := by decide +kernel
theorem d_X_init_128 : decode b_X_init 128 = .ok (.new 9, 3) := by decide +kernel
theorem d_X_init_131 : decode b_X_init 131 = .ok (.dup, 1) := by decide +kernel
theorem d_X_init_132 : decode b_X_init 132 = .ok (.invokespecial 57, 3) := by decide +kernel
theorem d_X_init_135 : decode b_X_init 135 = .ok (.aastore, 1) := by decide +kernel
theorem d_X_init_136 : decode b_X_init 136 = .ok (.iinc 3 1, 3) := by decide +kernel
theorem d_X_init_139 : decode b_X_init 139 = .ok (.goto (-21), 3) := by decide +kernel
theorem d_X_init_142 : decode b_X_init 142 = .ok (.return_, 1) := by decide +kernel
theorem d_F_init_0 : decode b_F_init 0 = .ok (.aload_n 0, 1) := by decide +kernel
theorem d_F_init_1 : decode b_F_init 1 = .ok (.invokespecial 3, 3) := by decide +kernel
theorem d_F_init_4 : decode b_F_init 4 = .ok (.aload_n 0, 1) := by decide +kernel
theorem d_F_init_5 : decode b_F_init 5 = .ok (.iconst 0, 1) := by decide +kernel
theorem d_F_init_6 : decode b_F_init 6 = .ok (.putfield 9, 3) := by decide +kernel
theorem d_F_init_9 : decode b_F_init 9 = .ok (.aload_n 0, 1) := by decide +kernel
theorem d_F_init_10 : decode b_F_init 10 = .ok (.iconst 0, 1) := by decide +kernel
theorem d_F_init_11 : decode b_F_init 11 = .ok (.putfield 15, 3) := by decide +kernel
theorem d_F_init_14 : decode b_F_init 14 = .ok (.aload_n 0, 1) := by decide +kernel
theorem d_F_init_15 : decode b_F_init 15 = .ok (.iconst 0, 1) := by decide +kernel
theorem d_F_init_16 : decode b_F_init 16 = .ok (.putfield 19, 3) := by decide +kernel
theorem d_F_init_19 : decode b_F_init 19 = .ok (.aload_n 0, 1) := by decide +kernel
theorem d_F_init_20 : decode b_F_init 20 = .ok (.iconst 0, 1) := by decide +kernel
theorem d_F_init_21 : decode b_F_init 21 = .ok (.putfield 22, 3) := by decide +kernel
theorem d_F_init_24 : decode b_F_init 24 = .ok (.aload_n 0, 1) := by decide +kernel
theorem d_F_init_25 : decode b_F_init 25 = .ok (.lconst 0, 1) := by decide +kernel
theorem d_F_init_26 : decode b_F_init 26 = .ok (.putfield 25, 3) := by decide +kernel
theorem d_F_init_29 : decode b_F_init 29 = .ok (.aload_n 0, 1) := by decide +kernel
theorem d_F_init_30 : decode b_F_init 30 = .ok (.iconst 0, 1) := by decide +kernel
theorem d_F_init_31 : decode b_F_init 31 = .ok (.putfield 29, 3) := by decide +kernel
theorem d_F_init_34 : decode b_F_init 34 = .ok (.return_, 1) := by decide +kernel
theorem d_X_within_0 : decode b_X_within 0 = .ok (.iload_n 0, 1) := by decide +kernel
theorem d_X_within_1 : decode b_X_within 1 = .ok (.iload_n 1, 1) := by decide +kernel
theorem d_X_within_2 : decode b_X_within 2 = .ok (.if_icmp .lt 12, 3) := by decide +kernel
theorem d_X_within_5 : decode b_X_within 5 = .ok (.iload_n 0, 1) := by decide +kernel
theorem d_X_within_6 : decode b_X_within 6 = .ok (.iload_n 2, 1) := by decide +kernel
theorem d_X_within_7 : decode b_X_within 7 = .ok (.if_icmp .gt 7, 3) := by decide +kernel
theorem d_X_within_10 : decode b_X_within 10 = .ok (.iconst 1, 1) := by decide +kernel
theorem d_X_within_11 : decode b_X_within 11 = .ok (.goto 4, 3) := by decide +kernel
theorem d_X_within_14 : decode b_X_within 14 = .ok (.iconst 0, 1) := by decide +kernel
theorem d_X_within_15 : decode b_X_within 15 = .ok (.ireturn, 1) := by decide +kernel
theorem d_Y_init_0 : decode b_Y_init 0 = .ok (.aload_n 0, 1) := by decide +kernel
theorem d_Y_init_1 : decode b_Y_init 1 = .ok (.invokespecial 3, 3) := by decide +kernel
theorem d_Y_init_4 : decode b_Y_init 4 = .ok (.aload_n 0, 1) := by decide +kernel
theorem d_Y_init_5 : decode b_Y_init 5 = .ok (.iconst 5, 1) := by decide +kernel
theorem d_Y_init_6 : decode b_Y_init 6 = .ok (.newarray .long, 2) := by decide +kernel
theorem d_Y_init_8 : decode b_Y_init 8 = .ok (.putfield 9, 3) := by decide +kernel
theorem d_Y_init_11 : decode b_Y_init 11 = .ok (.aload_n 0, 1) := by decide +kernel
theorem d_Y_init_12 : decode b_Y_init 12 = .ok (.iconst 0, 1) := by decide +kernel
theorem d_Y_init_13 : decode b_Y_init 13 = .ok (.putfield 15, 3) := by decide +kernel
theorem d_Y_init_16 : decode b_Y_init 16 = .ok (.aload_n 0, 1) := by decide +kernel
theorem d_Y_init_17 : decode b_Y_init 17 = .ok (.ldc 19, 2) := by decide +kernel
theorem d_Y_init_19 : decode b_Y_init 19 = .ok (.putfield 20, 3) := by decide +kernel
theorem d_Y_init_22 : decode b_Y_init 22 = .ok (.return_, 1) := by decide +kernel
theorem d_K_init_0 : decode b_K_init 0 = .ok (.aload_n 0, 1) := by decide +kernel
theorem d_K_init_1 : decode b_K_init 1 = .ok (.invokespecial 3, 3) := by decide +kernel
theorem d_K_init_4 : decode b_K_init 4 = .ok (.aload_n 0, 1) := by decide +kernel
theorem d_K_init_5 : decode b_K_init 5 = .ok (.iconst 4, 1) := by decide +kernel
theorem d_K_init_6 : decode b_K_init 6 = .ok (.newarray .int, 2) := by decide +kernel
theorem d_K_init_8 : decode b_K_init 8 = .ok (.putfield 9, 3) := by decide +kernel
theorem d_K_init_11 : decode b_K_init 11 = .ok (.aload_n 0, 1) := by decide +kernel
theorem d_K_init_12 : decode b_K_init 12 = .ok (.iconst 4, 1) := by decide +kernel
theorem d_K_init_13 : decode b_K_init 13 = .ok (.newarray .int, 2) := by decide +kernel
theorem d_K_init_15 : decode b_K_init 15 = .ok (.putfield 15, 3) := by decide +kernel
theorem d_K_init_18 : decode b_K_init 18 = .ok (.aload_n 0, 1) := by decide +kernel
theorem d_K_init_19 : decode b_K_init 19 = .ok (.iconst 0, 1) := by decide +kernel
theorem d_K_init_20 : decode b_K_init 20 = .ok (.putfield 18, 3) := by decide +kernel
theorem d_K_init_23 : decode b_K_init 23 = .ok (.aload_n 0, 1) := by decide +kernel
theorem d_K_init_24 : decode b_K_init 24 = .ok (.iconst 0, 1) := by decide +kernel
theorem d_K_init_25 : decode b_K_init 25 = .ok (.putfield 22, 3) := by decide +kernel
theorem d_K_init_28 : decode b_K_init 28 = .ok (.aload_n 0, 1) := by decide +kernel
theorem d_K_init_29 : decode b_K_init 29 = .ok (.iconst 0, 1) := by decide +kernel
theorem d_K_init_30 : decode b_K_init 30 = .ok (.putfield 25, 3) := by decide +kernel
theorem d_K_init_33 : decode b_K_init 33 = .ok (.return_, 1) := by decide +kernel
theorem d_X_part_0 : decode b_X_part 0 = .ok (.iload_n 2, 1) := by decide +kernel
theorem d_X_part_1 : decode b_X_part 1 = .ok (.invokestatic 58, 3) := by decide +kernel
theorem d_X_part_4 : decode b_X_part 4 = .ok (.ifCond .eq 13, 3) := by decide +kernel
theorem d_X_part_7 : decode b_X_part 7 = .ok (.iload_n 3, 1) := by decide +kernel
theorem d_X_part_8 : decode b_X_part 8 = .ok (.iconst 0, 1) := by decide +kernel
theorem d_X_part_9 : decode b_X_part 9 = .ok (.ldc 62, 2) := by decide +kernel
theorem d_X_part_11 : decode b_X_part 11 = .ok (.invokestatic 46, 3) := by decide +kernel
theorem d_X_part_14 : decode b_X_part 14 = .ok (.ifCond .ne 5, 3) := by decide +kernel
theorem d_X_part_17 : decode b_X_part 17 = .ok (.iconst 0, 1) := by decide +kernel
theorem d_X_part_18 : decode b_X_part 18 = .ok (.ireturn, 1) := by decide +kernel
theorem d_X_part_19 : decode b_X_part 19 = .ok (.aload_n 0, 1) := by decide +kernel
theorem d_X_part_20 : decode b_X_part 20 = .ok (.aload_n 0, 1) := by decide +kernel
theorem d_X_part_21 : decode b_X_part 21 = .ok (.iload_n 1, 1) := by decide +kernel
theorem d_X_part_22 : decode b_X_part 22 = .ok (.invokevirtual 63, 3) := by decide +kernel
theorem d_X_part_25 : decode b_X_part 25 = .ok (.iload_n 2, 1) := by decide +kernel
theorem d_X_part_26 : decode b_X_part 26 = .ok (.iload_n 3, 1) := by decide +kernel
theorem d_X_part_27 : decode b_X_part 27 = .ok (.ldc2_w 67, 3) := by decide +kernel
theorem d_X_part_30 : decode b_X_part 30 = .ok (.invokevirtual 69, 3) := by decide +kernel
theorem d_X_part_33 : decode b_X_part 33 = .ok (.ireturn, 1) := by decide +kernel
theorem d_X_isPart_0 : decode b_X_isPart 0 = .ok (.iload_n 0, 1) := by decide +kernel
theorem d_X_isPart_1 : decode b_X_isPart 1 = .ok (.iconst 0, 1) := by decide +kernel
theorem d_X_isPart_2 : decode b_X_isPart 2 = .ok (.iconst 2, 1) := by decide +kernel
theorem d_X_isPart_3 : decode b_X_isPart 3 = .ok (.invokestatic 46, 3) := by decide +kernel
theorem d_X_isPart_6 : decode b_X_isPart 6 = .ok (.ireturn, 1) := by decide +kernel
theorem d_X_layerAt_0 : decode b_X_layerAt 0 = .ok (.iload_n 1, 1) := by decide +kernel
theorem d_X_layerAt_1 : decode b_X_layerAt 1 = .ok (.iconst 0, 1) := by decide +kernel
theorem d_X_layerAt_2 : decode b_X_layerAt 2 = .ok (.aload_n 0, 1) := by decide +kernel
theorem d_X_layerAt_3 : decode b_X_layerAt 3 = .ok (.getfield 52, 3) := by decide +kernel
theorem d_X_layerAt_6 : decode b_X_layerAt 6 = .ok (.arraylength, 1) := by decide +kernel
theorem d_X_layerAt_7 : decode b_X_layerAt 7 = .ok (.iconst 1, 1) := by decide +kernel
theorem d_X_layerAt_8 : decode b_X_layerAt 8 = .ok (.isub, 1) := by decide +kernel
theorem d_X_layerAt_9 : decode b_X_layerAt 9 = .ok (.invokestatic 46, 3) := by decide +kernel
theorem d_X_layerAt_12 : decode b_X_layerAt 12 = .ok (.ifCond .eq 12, 3) := by decide +kernel
theorem d_X_layerAt_15 : decode b_X_layerAt 15 = .ok (.aload_n 0, 1) := by decide +kernel
theorem d_X_layerAt_16 : decode b_X_layerAt 16 = .ok (.getfield 52, 3) := by decide +kernel
theorem d_X_layerAt_19 : decode b_X_layerAt 19 = .ok (.iload_n 1, 1) := by decide +kernel
theorem d_X_layerAt_20 : decode b_X_layerAt 20 = .ok (.aaload, 1) := by decide +kernel
theorem d_X_layerAt_21 : decode b_X_layerAt 21 = .ok (.goto 4, 3) := by decide +kernel
theorem d_X_layerAt_24 : decode b_X_layerAt 24 = .ok (.aconst_null, 1) := by decide +kernel
theorem d_X_layerAt_25 : decode b_X_layerAt 25 = .ok (.areturn, 1) := by decide +kernel
theorem d_X_bring_0 : decode b_X_bring 0 = .ok (.aload_n 1, 1) := by decide +kernel
theorem d_X_bring_1 : decode b_X_bring 1 = .ok (.ifnull 18, 3) := by decide +kernel
theorem d_X_bring_4 : decode b_X_bring 4 = .ok (.aload_n 1, 1) := by decide +kernel
theorem d_X_bring_5 : decode b_X_bring 5 = .ok (.getfield 107, 3) := by decide +kernel
theorem d_X_bring_8 : decode b_X_bring 8 = .ok (.iload_n 2, 1) := by decide +kernel
theorem d_X_bring_9 : decode b_X_bring 9 = .ok (.laload, 1) := by decide +kernel
theorem d_X_bring_10 : decode b_X_bring 10 = .ok (.iload_n 3, 1) := by decide +kernel
theorem d_X_bring_11 : decode b_X_bring 11 = .ok (.i2l, 1) := by decide +kernel
theorem d_X_bring_12 : decode b_X_bring 12 = .ok (.ladd, 1) := by decide +kernel
theorem d_X_bring_13 : decode b_X_bring 13 = .ok (.lload 4, 2) := by decide +kernel
theorem d_X_bring_15 : decode b_X_bring 15 = .ok (.lcmp, 1) := by decide +kernel
theorem d_X_bring_16 : decode b_X_bring 16 = .ok (.ifCond .le 5, 3) := by decide +kernel
theorem d_X_bring_19 : decode b_X_bring 19 = .ok (.iconst 0, 1) := by decide +kernel
theorem d_X_bring_20 : decode b_X_bring 20 = .ok (.ireturn, 1) := by decide +kernel
theorem d_X_bring_21 : decode b_X_bring 21 = .ok (.aload_n 1, 1) := by decide +kernel
theorem d_X_bring_22 : decode b_X_bring 22 = .ok (.getfield 107, 3) := by decide +kernel
theorem d_X_bring_25 : decode b_X_bring 25 = .ok (.iload_n 2, 1) := by decide +kernel
theorem d_X_bring_26 : decode b_X_bring 26 = .ok (.dup2, 1) := by decide +kernel
theorem d_X_bring_27 : decode b_X_bring 27 = .ok (.laload, 1) := by decide +kernel
theorem d_X_bring_28 : decode b_X_bring 28 = .ok (.iload_n 3, 1) := by decide +kernel
theorem d_X_bring_29 : decode b_X_bring 29 = .ok (.i2l, 1) := by decide +kernel
theorem d_X_bring_30 : decode b_X_bring 30 = .ok (.ladd, 1) := by decide +kernel
theorem d_X_bring_31 : decode b_X_bring 31 = .ok (.lastore, 1) := by decide +kernel
theorem d_X_bring_32 : decode b_X_bring 32 = .ok (.aload_n 0, 1) := by decide +kernel
theorem d_X_bring_33 : decode b_X_bring 33 = .ok (.getfield 26, 3) := by decide +kernel
theorem d_X_bring_36 : decode b_X_bring 36 = .ok (.iload_n 2, 1) := by decide +kernel
theorem d_X_bring_37 : decode b_X_bring 37 = .ok (.dup2, 1) := by decide +kernel
theorem d_X_bring_38 : decode b_X_bring 38 = .ok (.laload, 1) := by decide +kernel
theorem d_X_bring_39 : decode b_X_bring 39 = .ok (.iload_n 3, 1) := by decide +kernel
theorem d_X_bring_40 : decode b_X_bring 40 = .ok (.i2l, 1) := by decide +kernel
theorem d_X_bring_41 : decode b_X_bring 41 = .ok (.ladd, 1) := by decide +kernel
theorem d_X_bring_42 : decode b_X_bring 42 = .ok (.lastore, 1) := by decide +kernel
theorem d_X_bring_43 : decode b_X_bring 43 = .ok (.iconst 1, 1) := by decide +kernel
theorem d_X_bring_44 : decode b_X_bring 44 = .ok (.ireturn, 1) := by decide +kernel
theorem d_X_water_0 : decode b_X_water 0 = .ok (.iload_n 2, 1) := by decide +kernel
theorem d_X_water_1 : decode b_X_water 1 = .ok (.iconst 0, 1) := by decide +kernel
theorem d_X_water_2 : decode b_X_water 2 = .ok (.ldc 62, 2) := by decide +kernel
theorem d_X_water_4 : decode b_X_water 4 = .ok (.invokestatic 46, 3) := by decide +kernel
theorem d_X_water_7 : decode b_X_water 7 = .ok (.ifCond .ne 5, 3) := by decide +kernel
theorem d_X_water_10 : decode b_X_water 10 = .ok (.iconst 0, 1) := by decide +kernel
theorem d_X_water_11 : decode b_X_water 11 = .ok (.ireturn, 1) := by decide +kernel
theorem d_X_water_12 : decode b_X_water 12 = .ok (.aload_n 0, 1) := by decide +kernel
theorem d_X_water_13 : decode b_X_water 13 = .ok (.aload_n 0, 1) := by decide +kernel
theorem d_X_water_14 : decode b_X_water 14 = .ok (.iload_n 1, 1) := by decide +kernel
theorem d_X_water_15 : decode b_X_water 15 = .ok (.invokevirtual 63, 3) := by decide +kernel
theorem d_X_water_18 : decode b_X_water 18 = .ok (.iconst 3, 1) := by decide +kernel
theorem d_X_water_19 : decode b_X_water 19 = .ok (.iload_n 2, 1) := by decide +kernel
theorem d_X_water_20 : decode b_X_water 20 = .ok (.ldc2_w 67, 3) := by decide +kernel
theorem d_X_water_23 : decode b_X_water 23 = .ok (.invokevirtual 69, 3) := by decide +kernel
theorem d_X_water_26 : decode b_X_water 26 = .ok (.ireturn, 1) := by decide +kernel
theorem d_X_heat_0 : decode b_X_heat 0 = .ok (.iload_n 2, 1) := by decide +kernel
theorem d_X_heat_1 : decode b_X_heat 1 = .ok (.iconst 0, 1) := by decide +kernel
theorem d_X_heat_2 : decode b_X_heat 2 = .ok (.ldc 39, 2) := by decide +kernel
theorem d_X_heat_4 : decode b_X_heat 4 = .ok (.invokestatic 46, 3) := by decide +kernel
theorem d_X_heat_7 : decode b_X_heat 7 = .ok (.ifCond .ne 5, 3) := by decide +kernel
theorem d_X_heat_10 : decode b_X_heat 10 = .ok (.iconst 0, 1) := by decide +kernel
theorem d_X_heat_11 : decode b_X_heat 11 = .ok (.ireturn, 1) := by decide +kernel
theorem d_X_heat_12 : decode b_X_heat 12 = .ok (.aload_n 0, 1) := by decide +kernel
theorem d_X_heat_13 : decode b_X_heat 13 = .ok (.aload_n 0, 1) := by decide +kernel
theorem d_X_heat_14 : decode b_X_heat 14 = .ok (.iload_n 1, 1) := by decide +kernel
theorem d_X_heat_15 : decode b_X_heat 15 = .ok (.invokevirtual 63, 3) := by decide +kernel
theorem d_X_heat_18 : decode b_X_heat 18 = .ok (.iconst 4, 1) := by decide +kernel
theorem d_X_heat_19 : decode b_X_heat 19 = .ok (.iload_n 2, 1) := by decide +kernel
theorem d_X_heat_20 : decode b_X_heat 20 = .ok (.ldc2_w 73, 3) := by decide +kernel
theorem d_X_heat_23 : decode b_X_heat 23 = .ok (.invokevirtual 69, 3) := by decide +kernel
theorem d_X_heat_26 : decode b_X_heat 26 = .ok (.ireturn, 1) := by decide +kernel
theorem d_X_rate_0 : decode b_X_rate 0 = .ok (.iload_n 1, 1) := by decide +kernel
theorem d_X_rate_1 : decode b_X_rate 1 = .ok (.invokestatic 58, 3) := by decide +kernel
theorem d_X_rate_4 : decode b_X_rate 4 = .ok (.ifCond .eq 23, 3) := by decide +kernel
theorem d_X_rate_7 : decode b_X_rate 7 = .ok (.iload_n 2, 1) := by decide +kernel
theorem d_X_rate_8 : decode b_X_rate 8 = .ok (.iconst 0, 1) := by decide +kernel
theorem d_X_rate_9 : decode b_X_rate 9 = .ok (.ldc 62, 2) := by decide +kernel
theorem d_X_rate_11 : decode b_X_rate 11 = .ok (.invokestatic 46, 3) := by decide +kernel
theorem d_X_rate_14 : decode b_X_rate 14 = .ok (.ifCond .eq 13, 3) := by decide +kernel
theorem d_X_rate_17 : decode b_X_rate 17 = .ok (.iload_n 3, 1) := by decide +kernel
theorem d_X_rate_18 : decode b_X_rate 18 = .ok (.iconst 0, 1) := by decide +kernel
theorem d_X_rate_19 : decode b_X_rate 19 = .ok (.ldc 75, 2) := by decide +kernel
theorem d_X_rate_21 : decode b_X_rate 21 = .ok (.invokestatic 46, 3) := by decide +kernel
theorem d_X_rate_24 : decode b_X_rate 24 = .ok (.ifCond .ne 5, 3) := by decide +kernel
theorem d_X_rate_27 : decode b_X_rate 27 = .ok (.iconst 0, 1) := by decide +kernel
theorem d_X_rate_28 : decode b_X_rate 28 = .ok (.ireturn, 1) := by decide +kernel
theorem d_X_rate_29 : decode b_X_rate 29 = .ok (.aload_n 0, 1) := by decide +kernel
theorem d_X_rate_30 : decode b_X_rate 30 = .ok (.getfield 11, 3) := by decide +kernel
theorem d_X_rate_33 : decode b_X_rate 33 = .ok (.iload_n 1, 1) := by decide +kernel
theorem d_X_rate_34 : decode b_X_rate 34 = .ok (.aaload, 1) := by decide +kernel
theorem d_X_rate_35 : decode b_X_rate 35 = .ok (.iload_n 2, 1) := by decide +kernel
theorem d_X_rate_36 : decode b_X_rate 36 = .ok (.iload_n 3, 1) := by decide +kernel
theorem d_X_rate_37 : decode b_X_rate 37 = .ok (.invokevirtual 76, 3) := by decide +kernel
theorem d_X_rate_40 : decode b_X_rate 40 = .ok (.ireturn, 1) := by decide +kernel
theorem d_K_addRow_0 : decode b_K_addRow 0 = .ok (.aload_n 0, 1) := by decide +kernel
theorem d_K_addRow_1 : decode b_K_addRow 1 = .ok (.getfield 18, 3) := by decide +kernel
theorem d_K_addRow_4 : decode b_K_addRow 4 = .ok (.iconst 4, 1) := by decide +kernel
theorem d_K_addRow_5 : decode b_K_addRow 5 = .ok (.if_icmp .ge 25, 3) := by decide +kernel
theorem d_K_addRow_8 : decode b_K_addRow 8 = .ok (.aload_n 0, 1) := by decide +kernel
theorem d_K_addRow_9 : decode b_K_addRow 9 = .ok (.getfield 18, 3) := by decide +kernel
theorem d_K_addRow_12 : decode b_K_addRow 12 = .ok (.ifCond .le 20, 3) := by decide +kernel
theorem d_K_addRow_15 : decode b_K_addRow 15 = .ok (.iload_n 1, 1) := by decide +kernel
theorem d_K_addRow_16 : decode b_K_addRow 16 = .ok (.aload_n 0, 1) := by decide +kernel
theorem d_K_addRow_17 : decode b_K_addRow 17 = .ok (.getfield 9, 3) := by decide +kernel
theorem d_K_addRow_20 : decode b_K_addRow 20 = .ok (.aload_n 0, 1) := by decide +kernel
theorem d_K_addRow_21 : decode b_K_addRow 21 = .ok (.getfield 18, 3) := by decide +kernel
theorem d_K_addRow_24 : decode b_K_addRow 24 = .ok (.iconst 1, 1) := by decide +kernel
theorem d_K_addRow_25 : decode b_K_addRow 25 = .ok (.isub, 1) := by decide +kernel
theorem d_K_addRow_26 : decode b_K_addRow 26 = .ok (.iaload, 1) := by decide +kernel
theorem d_K_addRow_27 : decode b_K_addRow 27 = .ok (.if_icmp .gt 5, 3) := by decide +kernel
theorem d_K_addRow_30 : decode b_K_addRow 30 = .ok (.iconst 0, 1) := by decide +kernel
theorem d_K_addRow_31 : decode b_K_addRow 31 = .ok (.ireturn, 1) := by decide +kernel
theorem d_K_addRow_32 : decode b_K_addRow 32 = .ok (.aload_n 0, 1) := by decide +kernel
theorem d_K_addRow_33 : decode b_K_addRow 33 = .ok (.getfield 9, 3) := by decide +kernel
theorem d_K_addRow_36 : decode b_K_addRow 36 = .ok (.aload_n 0, 1) := by decide +kernel
theorem d_K_addRow_37 : decode b_K_addRow 37 = .ok (.getfield 18, 3) := by decide +kernel
theorem d_K_addRow_40 : decode b_K_addRow 40 = .ok (.iload_n 1, 1) := by decide +kernel
theorem d_K_addRow_41 : decode b_K_addRow 41 = .ok (.iastore, 1) := by decide +kernel
theorem d_K_addRow_42 : decode b_K_addRow 42 = .ok (.aload_n 0, 1) := by decide +kernel
theorem d_K_addRow_43 : decode b_K_addRow 43 = .ok (.getfield 15, 3) := by decide +kernel
theorem d_K_addRow_46 : decode b_K_addRow 46 = .ok (.aload_n 0, 1) := by decide +kernel
theorem d_K_addRow_47 : decode b_K_addRow 47 = .ok (.getfield 18, 3) := by decide +kernel
theorem d_K_addRow_50 : decode b_K_addRow 50 = .ok (.iload_n 2, 1) := by decide +kernel
theorem d_K_addRow_51 : decode b_K_addRow 51 = .ok (.iastore, 1) := by decide +kernel
theorem d_K_addRow_52 : decode b_K_addRow 52 = .ok (.aload_n 0, 1) := by decide +kernel
theorem d_K_addRow_53 : decode b_K_addRow 53 = .ok (.dup, 1) := by decide +kernel
theorem d_K_addRow_54 : decode b_K_addRow 54 = .ok (.getfield 18, 3) := by decide +kernel
theorem d_K_addRow_57 : decode b_K_addRow 57 = .ok (.iconst 1, 1) := by decide +kernel
theorem d_K_addRow_58 : decode b_K_addRow 58 = .ok (.iadd, 1) := by decide +kernel
theorem d_K_addRow_59 : decode b_K_addRow 59 = .ok (.putfield 18, 3) := by decide +kernel
theorem d_K_addRow_62 : decode b_K_addRow 62 = .ok (.iconst 1, 1) := by decide +kernel
theorem d_K_addRow_63 : decode b_K_addRow 63 = .ok (.ireturn, 1) := by decide +kernel
theorem d_X_yields_0 : decode b_X_yields 0 = .ok (.iload_n 1, 1) := by decide +kernel
theorem d_X_yields_1 : decode b_X_yields 1 = .ok (.invokestatic 58, 3) := by decide +kernel
theorem d_X_yields_4 : decode b_X_yields 4 = .ok (.ifCond .eq 24, 3) := by decide +kernel
theorem d_X_yields_7 : decode b_X_yields 7 = .ok (.iload_n 2, 1) := by decide +kernel
theorem d_X_yields_8 : decode b_X_yields 8 = .ok (.iconst 0, 1) := by decide +kernel
theorem d_X_yields_9 : decode b_X_yields 9 = .ok (.ldc 75, 2) := by decide +kernel
theorem d_X_yields_11 : decode b_X_yields 11 = .ok (.invokestatic 46, 3) := by decide +kernel
theorem d_X_yields_14 : decode b_X_yields 14 = .ok (.ifCond .eq 14, 3) := by decide +kernel
theorem d_X_yields_17 : decode b_X_yields 17 = .ok (.iload_n 3, 1) := by decide +kernel
theorem d_X_yields_18 : decode b_X_yields 18 = .ok (.iconst 0, 1) := by decide +kernel
theorem d_X_yields_19 : decode b_X_yields 19 = .ok (.sipush 1000, 3) := by decide +kernel
theorem d_X_yields_22 : decode b_X_yields 22 = .ok (.invokestatic 46, 3) := by decide +kernel
theorem d_X_yields_25 : decode b_X_yields 25 = .ok (.ifCond .ne 5, 3) := by decide +kernel
theorem d_X_yields_28 : decode b_X_yields 28 = .ok (.iconst 0, 1) := by decide +kernel
theorem d_X_yields_29 : decode b_X_yields 29 = .ok (.ireturn, 1) := by decide +kernel
theorem d_X_yields_30 : decode b_X_yields 30 = .ok (.aload_n 0, 1) := by decide +kernel
theorem d_X_yields_31 : decode b_X_yields 31 = .ok (.getfield 11, 3) := by decide +kernel
theorem d_X_yields_34 : decode b_X_yields 34 = .ok (.iload_n 1, 1) := by decide +kernel
theorem d_X_yields_35 : decode b_X_yields 35 = .ok (.aaload, 1) := by decide +kernel
theorem d_X_yields_36 : decode b_X_yields 36 = .ok (.iload_n 2, 1) := by decide +kernel
theorem d_X_yields_37 : decode b_X_yields 37 = .ok (.putfield 80, 3) := by decide +kernel
theorem d_X_yields_40 : decode b_X_yields 40 = .ok (.aload_n 0, 1) := by decide +kernel
theorem d_X_yields_41 : decode b_X_yields 41 = .ok (.getfield 11, 3) := by decide +kernel
theorem d_X_yields_44 : decode b_X_yields 44 = .ok (.iload_n 1, 1) := by decide +kernel
theorem d_X_yields_45 : decode b_X_yields 45 = .ok (.aaload, 1) := by decide +kernel
theorem d_X_yields_46 : decode b_X_yields 46 = .ok (.iload_n 3, 1) := by decide +kernel
theorem d_X_yields_47 : decode b_X_yields 47 = .ok (.putfield 83, 3) := by decide +kernel
theorem d_X_yields_50 : decode b_X_yields 50 = .ok (.iconst 1, 1) := by decide +kernel
theorem d_X_yields_51 : decode b_X_yields 51 = .ok (.ireturn, 1) := by decide +kernel
theorem d_X_bounds_0 : decode b_X_bounds 0 = .ok (.aload_n 0, 1) := by decide +kernel
theorem d_X_bounds_1 : decode b_X_bounds 1 = .ok (.iload_n 1, 1) := by decide +kernel
theorem d_X_bounds_2 : decode b_X_bounds 2 = .ok (.invokevirtual 63, 3) := by decide +kernel
theorem d_X_bounds_5 : decode b_X_bounds 5 = .ok (.astore 4, 2) := by decide +kernel
theorem d_X_bounds_7 : decode b_X_bounds 7 = .ok (.aload 4, 2) := by decide +kernel
theorem d_X_bounds_9 : decode b_X_bounds 9 = .ok (.ifnull 23, 3) := by decide +kernel
theorem d_X_bounds_12 : decode b_X_bounds 12 = .ok (.iload_n 2, 1) := by decide +kernel
theorem d_X_bounds_13 : decode b_X_bounds 13 = .ok (.iconst 0, 1) := by decide +kernel
theorem d_X_bounds_14 : decode b_X_bounds 14 = .ok (.ldc 39, 2) := by decide +kernel
theorem d_X_bounds_16 : decode b_X_bounds 16 = .ok (.invokestatic 46, 3) := by decide +kernel
theorem d_X_bounds_19 : decode b_X_bounds 19 = .ok (.ifCond .eq 13, 3) := by decide +kernel
theorem d_X_bounds_22 : decode b_X_bounds 22 = .ok (.iload_n 3, 1) := by decide +kernel
theorem d_X_bounds_23 : decode b_X_bounds 23 = .ok (.iconst 0, 1) := by decide +kernel
theorem d_X_bounds_24 : decode b_X_bounds 24 = .ok (.ldc 39, 2) := by decide +kernel
theorem d_X_bounds_26 : decode b_X_bounds 26 = .ok (.invokestatic 46, 3) := by decide +kernel
theorem d_X_bounds_29 : decode b_X_bounds 29 = .ok (.ifCond .ne 5, 3) := by decide +kernel
theorem d_X_bounds_32 : decode b_X_bounds 32 = .ok (.iconst 0, 1) := by decide +kernel
theorem d_X_bounds_33 : decode b_X_bounds 33 = .ok (.ireturn, 1) := by decide +kernel
theorem d_X_bounds_34 : decode b_X_bounds 34 = .ok (.aload 4, 2) := by decide +kernel
theorem d_X_bounds_36 : decode b_X_bounds 36 = .ok (.iload_n 2, 1) := by decide +kernel
theorem d_X_bounds_37 : decode b_X_bounds 37 = .ok (.putfield 86, 3) := by decide +kernel
theorem d_X_bounds_40 : decode b_X_bounds 40 = .ok (.aload 4, 2) := by decide +kernel
theorem d_X_bounds_42 : decode b_X_bounds 42 = .ok (.iload_n 3, 1) := by decide +kernel
theorem d_X_bounds_43 : decode b_X_bounds 43 = .ok (.putfield 89, 3) := by decide +kernel
theorem d_X_bounds_46 : decode b_X_bounds 46 = .ok (.iconst 1, 1) := by decide +kernel
theorem d_X_bounds_47 : decode b_X_bounds 47 = .ok (.ireturn, 1) := by decide +kernel
theorem d_X_rain_0 : decode b_X_rain 0 = .ok (.iload_n 1, 1) := by decide +kernel
theorem d_X_rain_1 : decode b_X_rain 1 = .ok (.iconst 0, 1) := by decide +kernel
theorem d_X_rain_2 : decode b_X_rain 2 = .ok (.ldc 75, 2) := by decide +kernel
theorem d_X_rain_4 : decode b_X_rain 4 = .ok (.invokestatic 46, 3) := by decide +kernel
theorem d_X_rain_7 : decode b_X_rain 7 = .ok (.ifCond .ne 5, 3) := by decide +kernel
theorem d_X_rain_10 : decode b_X_rain 10 = .ok (.iconst 0, 1) := by decide +kernel
theorem d_X_rain_11 : decode b_X_rain 11 = .ok (.ireturn, 1) := by decide +kernel
theorem d_X_rain_12 : decode b_X_rain 12 = .ok (.aload_n 0, 1) := by decide +kernel
theorem d_X_rain_13 : decode b_X_rain 13 = .ok (.iload_n 1, 1) := by decide +kernel
theorem d_X_rain_14 : decode b_X_rain 14 = .ok (.putfield 32, 3) := by decide +kernel
theorem d_X_rain_17 : decode b_X_rain 17 = .ok (.iconst 1, 1) := by decide +kernel
theorem d_X_rain_18 : decode b_X_rain 18 = .ok (.ireturn, 1) := by decide +kernel
theorem d_X_loss_0 : decode b_X_loss 0 = .ok (.iload_n 1, 1) := by decide +kernel
theorem d_X_loss_1 : decode b_X_loss 1 = .ok (.iconst 0, 1) := by decide +kernel
theorem d_X_loss_2 : decode b_X_loss 2 = .ok (.ldc 62, 2) := by decide +kernel
theorem d_X_loss_4 : decode b_X_loss 4 = .ok (.invokestatic 46, 3) := by decide +kernel
theorem d_X_loss_7 : decode b_X_loss 7 = .ok (.ifCond .ne 5, 3) := by decide +kernel
theorem d_X_loss_10 : decode b_X_loss 10 = .ok (.iconst 0, 1) := by decide +kernel
theorem d_X_loss_11 : decode b_X_loss 11 = .ok (.ireturn, 1) := by decide +kernel
theorem d_X_loss_12 : decode b_X_loss 12 = .ok (.aload_n 0, 1) := by decide +kernel
theorem d_X_loss_13 : decode b_X_loss 13 = .ok (.iload_n 1, 1) := by decide +kernel
theorem d_X_loss_14 : decode b_X_loss 14 = .ok (.putfield 36, 3) := by decide +kernel
theorem d_X_loss_17 : decode b_X_loss 17 = .ok (.iconst 1, 1) := by decide +kernel
theorem d_X_loss_18 : decode b_X_loss 18 = .ok (.ireturn, 1) := by decide +kernel
theorem d_X_fan_0 : decode b_X_fan 0 = .ok (.iload_n 1, 1) := by decide +kernel
theorem d_X_fan_1 : decode b_X_fan 1 = .ok (.iconst 0, 1) := by decide +kernel
theorem d_X_fan_2 : decode b_X_fan 2 = .ok (.ldc 62, 2) := by decide +kernel
theorem d_X_fan_4 : decode b_X_fan 4 = .ok (.invokestatic 46, 3) := by decide +kernel
theorem d_X_fan_7 : decode b_X_fan 7 = .ok (.ifCond .eq 29, 3) := by decide +kernel
theorem d_X_fan_10 : decode b_X_fan 10 = .ok (.iload_n 2, 1) := by decide +kernel
theorem d_X_fan_11 : decode b_X_fan 11 = .ok (.sipush (-1000), 3) := by decide +kernel
theorem d_X_fan_14 : decode b_X_fan 14 = .ok (.sipush 1000, 3) := by decide +kernel
theorem d_X_fan_17 : decode b_X_fan 17 = .ok (.invokestatic 46, 3) := by decide +kernel
theorem d_X_fan_20 : decode b_X_fan 20 = .ok (.ifCond .eq 16, 3) := by decide +kernel
theorem d_X_fan_23 : decode b_X_fan 23 = .ok (.iload_n 3, 1) := by decide +kernel
theorem d_X_fan_24 : decode b_X_fan 24 = .ok (.sipush (-1000), 3) := by decide +kernel
theorem d_X_fan_27 : decode b_X_fan 27 = .ok (.sipush 1000, 3) := by decide +kernel
theorem d_X_fan_30 : decode b_X_fan 30 = .ok (.invokestatic 46, 3) := by decide +kernel
theorem d_X_fan_33 : decode b_X_fan 33 = .ok (.ifCond .ne 5, 3) := by decide +kernel
theorem d_X_fan_36 : decode b_X_fan 36 = .ok (.iconst 0, 1) := by decide +kernel
theorem d_X_fan_37 : decode b_X_fan 37 = .ok (.ireturn, 1) := by decide +kernel
theorem d_X_fan_38 : decode b_X_fan 38 = .ok (.aload_n 0, 1) := by decide +kernel
theorem d_X_fan_39 : decode b_X_fan 39 = .ok (.getfield 18, 3) := by decide +kernel
theorem d_X_fan_42 : decode b_X_fan 42 = .ok (.iload_n 1, 1) := by decide +kernel
theorem d_X_fan_43 : decode b_X_fan 43 = .ok (.iload_n 2, 1) := by decide +kernel
theorem d_X_fan_44 : decode b_X_fan 44 = .ok (.iload_n 3, 1) := by decide +kernel
theorem d_X_fan_45 : decode b_X_fan 45 = .ok (.invokevirtual 92, 3) := by decide +kernel
theorem d_X_fan_48 : decode b_X_fan 48 = .ok (.iconst 1, 1) := by decide +kernel
theorem d_X_fan_49 : decode b_X_fan 49 = .ok (.ireturn, 1) := by decide +kernel
theorem d_F_tell_0 : decode b_F_tell 0 = .ok (.aload_n 0, 1) := by decide +kernel
theorem d_F_tell_1 : decode b_F_tell 1 = .ok (.iconst 1, 1) := by decide +kernel
theorem d_F_tell_2 : decode b_F_tell 2 = .ok (.putfield 9, 3) := by decide +kernel
theorem d_F_tell_5 : decode b_F_tell 5 = .ok (.aload_n 0, 1) := by decide +kernel
theorem d_F_tell_6 : decode b_F_tell 6 = .ok (.iload_n 1, 1) := by decide +kernel
theorem d_F_tell_7 : decode b_F_tell 7 = .ok (.putfield 15, 3) := by decide +kernel
theorem d_F_tell_10 : decode b_F_tell 10 = .ok (.aload_n 0, 1) := by decide +kernel
theorem d_F_tell_11 : decode b_F_tell 11 = .ok (.iload_n 2, 1) := by decide +kernel
theorem d_F_tell_12 : decode b_F_tell 12 = .ok (.putfield 19, 3) := by decide +kernel
theorem d_F_tell_15 : decode b_F_tell 15 = .ok (.aload_n 0, 1) := by decide +kernel
theorem d_F_tell_16 : decode b_F_tell 16 = .ok (.iload_n 3, 1) := by decide +kernel
theorem d_F_tell_17 : decode b_F_tell 17 = .ok (.putfield 22, 3) := by decide +kernel
theorem d_F_tell_20 : decode b_F_tell 20 = .ok (.aload_n 0, 1) := by decide +kernel
theorem d_F_tell_21 : decode b_F_tell 21 = .ok (.lconst 0, 1) := by decide +kernel
theorem d_F_tell_22 : decode b_F_tell 22 = .ok (.putfield 25, 3) := by decide +kernel
theorem d_F_tell_25 : decode b_F_tell 25 = .ok (.return_, 1) := by decide +kernel
theorem d_X_limit_0 : decode b_X_limit 0 = .ok (.iload_n 1, 1) := by decide +kernel
theorem d_X_limit_1 : decode b_X_limit 1 = .ok (.iconst 0, 1) := by decide +kernel
theorem d_X_limit_2 : decode b_X_limit 2 = .ok (.ldc 39, 2) := by decide +kernel
theorem d_X_limit_4 : decode b_X_limit 4 = .ok (.invokestatic 46, 3) := by decide +kernel
theorem d_X_limit_7 : decode b_X_limit 7 = .ok (.ifCond .ne 5, 3) := by decide +kernel
theorem d_X_limit_10 : decode b_X_limit 10 = .ok (.iconst 0, 1) := by decide +kernel
theorem d_X_limit_11 : decode b_X_limit 11 = .ok (.ireturn, 1) := by decide +kernel
theorem d_X_limit_12 : decode b_X_limit 12 = .ok (.aload_n 0, 1) := by decide +kernel
theorem d_X_limit_13 : decode b_X_limit 13 = .ok (.iload_n 1, 1) := by decide +kernel
theorem d_X_limit_14 : decode b_X_limit 14 = .ok (.putfield 40, 3) := by decide +kernel
theorem d_X_limit_17 : decode b_X_limit 17 = .ok (.iconst 1, 1) := by decide +kernel
theorem d_X_limit_18 : decode b_X_limit 18 = .ok (.ireturn, 1) := by decide +kernel
theorem d_X_run_0 : decode b_X_run 0 = .ok (.iload_n 1, 1) := by decide +kernel
theorem d_X_run_1 : decode b_X_run 1 = .ok (.iconst 1, 1) := by decide +kernel
theorem d_X_run_2 : decode b_X_run 2 = .ok (.sipush 1000, 3) := by decide +kernel
theorem d_X_run_5 : decode b_X_run 5 = .ok (.invokestatic 46, 3) := by decide +kernel
theorem d_X_run_8 : decode b_X_run 8 = .ok (.ifCond .eq 20, 3) := by decide +kernel
theorem d_X_run_11 : decode b_X_run 11 = .ok (.aload_n 0, 1) := by decide +kernel
theorem d_X_run_12 : decode b_X_run 12 = .ok (.getfield 22, 3) := by decide +kernel
theorem d_X_run_15 : decode b_X_run 15 = .ok (.bipush 8, 2) := by decide +kernel
theorem d_X_run_17 : decode b_X_run 17 = .ok (.laload, 1) := by decide +kernel
theorem d_X_run_18 : decode b_X_run 18 = .ok (.iload_n 1, 1) := by decide +kernel
theorem d_X_run_19 : decode b_X_run 19 = .ok (.i2l, 1) := by decide +kernel
theorem d_X_run_20 : decode b_X_run 20 = .ok (.ladd, 1) := by decide +kernel
theorem d_X_run_21 : decode b_X_run 21 = .ok (.ldc2_w 96, 3) := by decide +kernel
theorem d_X_run_24 : decode b_X_run 24 = .ok (.lcmp, 1) := by decide +kernel
theorem d_X_run_25 : decode b_X_run 25 = .ok (.ifCond .le 5, 3) := by decide +kernel
theorem d_X_run_28 : decode b_X_run 28 = .ok (.iconst (-1), 1) := by decide +kernel
theorem d_X_run_29 : decode b_X_run 29 = .ok (.ireturn, 1) := by decide +kernel
theorem d_X_run_30 : decode b_X_run 30 = .ok (.iconst 0, 1) := by decide +kernel
theorem d_X_run_31 : decode b_X_run 31 = .ok (.istore_n 2, 1) := by decide +kernel
theorem d_X_run_32 : decode b_X_run 32 = .ok (.iload_n 2, 1) := by decide +kernel
theorem d_X_run_33 : decode b_X_run 33 = .ok (.iload_n 1, 1) := by decide +kernel
theorem d_X_run_34 : decode b_X_run 34 = .ok (.if_icmp .ge 26, 3) := by decide +kernel
theorem d_X_run_37 : decode b_X_run 37 = .ok (.aload_n 0, 1) := by decide +kernel
theorem d_X_run_38 : decode b_X_run 38 = .ok (.invokevirtual 98, 3) := by decide +kernel
theorem d_X_run_41 : decode b_X_run 41 = .ok (.aload_n 0, 1) := by decide +kernel
theorem d_X_run_42 : decode b_X_run 42 = .ok (.getfield 40, 3) := by decide +kernel
theorem d_X_run_45 : decode b_X_run 45 = .ok (.i2l, 1) := by decide +kernel
theorem d_X_run_46 : decode b_X_run 46 = .ok (.lcmp, 1) := by decide +kernel
theorem d_X_run_47 : decode b_X_run 47 = .ok (.ifCond .gt 13, 3) := by decide +kernel
theorem d_X_run_50 : decode b_X_run 50 = .ok (.aload_n 0, 1) := by decide +kernel
theorem d_X_run_51 : decode b_X_run 51 = .ok (.invokevirtual 102, 3) := by decide +kernel
theorem d_X_run_54 : decode b_X_run 54 = .ok (.iinc 2 1, 3) := by decide +kernel
theorem d_X_run_57 : decode b_X_run 57 = .ok (.goto (-25), 3) := by decide +kernel
theorem d_X_run_60 : decode b_X_run 60 = .ok (.iload_n 2, 1) := by decide +kernel
theorem d_X_run_61 : decode b_X_run 61 = .ok (.ireturn, 1) := by decide +kernel
theorem d_X_greatestWarmth_0 : decode b_X_greatestWarmth 0 = .ok (.lconst 0, 1) := by decide +kernel
theorem d_X_greatestWarmth_1 : decode b_X_greatestWarmth 1 = .ok (.lstore_n 1, 1) := by decide +kernel
theorem d_X_greatestWarmth_2 : decode b_X_greatestWarmth 2 = .ok (.aload_n 0, 1) := by decide +kernel
theorem d_X_greatestWarmth_3 : decode b_X_greatestWarmth 3 = .ok (.getfield 52, 3) := by decide +kernel
theorem d_X_greatestWarmth_6 : decode b_X_greatestWarmth 6 = .ok (.astore_n 3, 1) := by decide +kernel
theorem d_X_greatestWarmth_7 : decode b_X_greatestWarmth 7 = .ok (.aload_n 3, 1) := by decide +kernel
theorem d_X_greatestWarmth_8 : decode b_X_greatestWarmth 8 = .ok (.arraylength, 1) := by decide +kernel
theorem d_X_greatestWarmth_9 : decode b_X_greatestWarmth 9 = .ok (.istore 4, 2) := by decide +kernel
theorem d_X_greatestWarmth_11 : decode b_X_greatestWarmth 11 = .ok (.iconst 0, 1) := by decide +kernel
theorem d_X_greatestWarmth_12 : decode b_X_greatestWarmth 12 = .ok (.istore 5, 2) := by decide +kernel
theorem d_X_greatestWarmth_14 : decode b_X_greatestWarmth 14 = .ok (.iload 5, 2) := by decide +kernel
theorem d_X_greatestWarmth_16 : decode b_X_greatestWarmth 16 = .ok (.iload 4, 2) := by decide +kernel
theorem d_X_greatestWarmth_18 : decode b_X_greatestWarmth 18 = .ok (.if_icmp .ge 25, 3) := by decide +kernel
theorem d_X_greatestWarmth_21 : decode b_X_greatestWarmth 21 = .ok (.aload_n 3, 1) := by decide +kernel
theorem d_X_greatestWarmth_22 : decode b_X_greatestWarmth 22 = .ok (.iload 5, 2) := by decide +kernel
theorem d_X_greatestWarmth_24 : decode b_X_greatestWarmth 24 = .ok (.aaload, 1) := by decide +kernel
theorem d_X_greatestWarmth_25 : decode b_X_greatestWarmth 25 = .ok (.astore 6, 2) := by decide +kernel
theorem d_X_greatestWarmth_27 : decode b_X_greatestWarmth 27 = .ok (.lload_n 1, 1) := by decide +kernel
theorem d_X_greatestWarmth_28 : decode b_X_greatestWarmth 28 = .ok (.aload 6, 2) := by decide +kernel
theorem d_X_greatestWarmth_30 : decode b_X_greatestWarmth 30 = .ok (.invokevirtual 110, 3) := by decide +kernel
theorem d_X_greatestWarmth_33 : decode b_X_greatestWarmth 33 = .ok (.invokestatic 135, 3) := by decide +kernel
theorem d_X_greatestWarmth_36 : decode b_X_greatestWarmth 36 = .ok (.lstore_n 1, 1) := by decide +kernel
theorem d_X_greatestWarmth_37 : decode b_X_greatestWarmth 37 = .ok (.iinc 5 1, 3) := by decide +kernel
theorem d_X_greatestWarmth_40 : decode b_X_greatestWarmth 40 = .ok (.goto (-26), 3) := by decide +kernel
theorem d_X_greatestWarmth_43 : decode b_X_greatestWarmth 43 = .ok (.lload_n 1, 1) := by decide +kernel
theorem d_X_greatestWarmth_44 : decode b_X_greatestWarmth 44 = .ok (.lreturn, 1) := by decide +kernel
theorem d_Y_warmthNow_0 : decode b_Y_warmthNow 0 = .ok (.aload_n 0, 1) := by decide +kernel
theorem d_Y_warmthNow_1 : decode b_Y_warmthNow 1 = .ok (.invokevirtual 23, 3) := by decide +kernel
theorem d_Y_warmthNow_4 : decode b_Y_warmthNow 4 = .ok (.lstore_n 1, 1) := by decide +kernel
theorem d_Y_warmthNow_5 : decode b_Y_warmthNow 5 = .ok (.lload_n 1, 1) := by decide +kernel
theorem d_Y_warmthNow_6 : decode b_Y_warmthNow 6 = .ok (.lconst 0, 1) := by decide +kernel
theorem d_Y_warmthNow_7 : decode b_Y_warmthNow 7 = .ok (.lcmp, 1) := by decide +kernel
theorem d_Y_warmthNow_8 : decode b_Y_warmthNow 8 = .ok (.ifCond .le 14, 3) := by decide +kernel
theorem d_Y_warmthNow_11 : decode b_Y_warmthNow 11 = .ok (.aload_n 0, 1) := by decide +kernel
theorem d_Y_warmthNow_12 : decode b_Y_warmthNow 12 = .ok (.getfield 9, 3) := by decide +kernel
theorem d_Y_warmthNow_15 : decode b_Y_warmthNow 15 = .ok (.iconst 4, 1) := by decide +kernel
theorem d_Y_warmthNow_16 : decode b_Y_warmthNow 16 = .ok (.laload, 1) := by decide +kernel
theorem d_Y_warmthNow_17 : decode b_Y_warmthNow 17 = .ok (.lload_n 1, 1) := by decide +kernel
theorem d_Y_warmthNow_18 : decode b_Y_warmthNow 18 = .ok (.ldiv, 1) := by decide +kernel
theorem d_Y_warmthNow_19 : decode b_Y_warmthNow 19 = .ok (.goto 4, 3) := by decide +kernel
theorem d_Y_warmthNow_22 : decode b_Y_warmthNow 22 = .ok (.lconst 0, 1) := by decide +kernel
theorem d_Y_warmthNow_23 : decode b_Y_warmthNow 23 = .ok (.lreturn, 1) := by decide +kernel
theorem d_Y_mass_0 : decode b_Y_mass 0 = .ok (.aload_n 0, 1) := by decide +kernel
theorem d_Y_mass_1 : decode b_Y_mass 1 = .ok (.getfield 9, 3) := by decide +kernel
theorem d_Y_mass_4 : decode b_Y_mass 4 = .ok (.iconst 3, 1) := by decide +kernel
theorem d_Y_mass_5 : decode b_Y_mass 5 = .ok (.laload, 1) := by decide +kernel
theorem d_Y_mass_6 : decode b_Y_mass 6 = .ok (.lstore_n 1, 1) := by decide +kernel
theorem d_Y_mass_7 : decode b_Y_mass 7 = .ok (.iconst 0, 1) := by decide +kernel
theorem d_Y_mass_8 : decode b_Y_mass 8 = .ok (.istore_n 3, 1) := by decide +kernel
theorem d_Y_mass_9 : decode b_Y_mass 9 = .ok (.iload_n 3, 1) := by decide +kernel
theorem d_Y_mass_10 : decode b_Y_mass 10 = .ok (.iconst 3, 1) := by decide +kernel
theorem d_Y_mass_11 : decode b_Y_mass 11 = .ok (.if_icmp .ge 18, 3) := by decide +kernel
theorem d_Y_mass_14 : decode b_Y_mass 14 = .ok (.lload_n 1, 1) := by decide +kernel
theorem d_Y_mass_15 : decode b_Y_mass 15 = .ok (.aload_n 0, 1) := by decide +kernel
theorem d_Y_mass_16 : decode b_Y_mass 16 = .ok (.getfield 9, 3) := by decide +kernel
theorem d_Y_mass_19 : decode b_Y_mass 19 = .ok (.iload_n 3, 1) := by decide +kernel
theorem d_Y_mass_20 : decode b_Y_mass 20 = .ok (.laload, 1) := by decide +kernel
theorem d_Y_mass_21 : decode b_Y_mass 21 = .ok (.ladd, 1) := by decide +kernel
theorem d_Y_mass_22 : decode b_Y_mass 22 = .ok (.lstore_n 1, 1) := by decide +kernel
theorem d_Y_mass_23 : decode b_Y_mass 23 = .ok (.iinc 3 1, 3) := by decide +kernel
theorem d_Y_mass_26 : decode b_Y_mass 26 = .ok (.goto (-17), 3) := by decide +kernel
theorem d_Y_mass_29 : decode b_Y_mass 29 = .ok (.lload_n 1, 1) := by decide +kernel
theorem d_Y_mass_30 : decode b_Y_mass 30 = .ok (.lreturn, 1) := by decide +kernel
theorem d_X_passMinute_0 : decode b_X_passMinute 0 = .ok (.aload_n 0, 1) := by decide +kernel
theorem d_X_passMinute_1 : decode b_X_passMinute 1 = .ok (.aload_n 0, 1) := by decide +kernel
theorem d_X_passMinute_2 : decode b_X_passMinute 2 = .ok (.getfield 32, 3) := by decide +kernel
theorem d_X_passMinute_5 : decode b_X_passMinute 5 = .ok (.i2l, 1) := by decide +kernel
theorem d_X_passMinute_6 : decode b_X_passMinute 6 = .ok (.iconst 0, 1) := by decide +kernel
theorem d_X_passMinute_7 : decode b_X_passMinute 7 = .ok (.invokevirtual 138, 3) := by decide +kernel
theorem d_X_passMinute_10 : decode b_X_passMinute 10 = .ok (.aload_n 0, 1) := by decide +kernel
theorem d_X_passMinute_11 : decode b_X_passMinute 11 = .ok (.getfield 22, 3) := by decide +kernel
theorem d_X_passMinute_14 : decode b_X_passMinute 14 = .ok (.iconst 3, 1) := by decide +kernel
theorem d_X_passMinute_15 : decode b_X_passMinute 15 = .ok (.dup2, 1) := by decide +kernel
theorem d_X_passMinute_16 : decode b_X_passMinute 16 = .ok (.laload, 1) := by decide +kernel
theorem d_X_passMinute_17 : decode b_X_passMinute 17 = .ok (.aload_n 0, 1) := by decide +kernel
theorem d_X_passMinute_18 : decode b_X_passMinute 18 = .ok (.getfield 32, 3) := by decide +kernel
theorem d_X_passMinute_21 : decode b_X_passMinute 21 = .ok (.i2l, 1) := by decide +kernel
theorem d_X_passMinute_22 : decode b_X_passMinute 22 = .ok (.ladd, 1) := by decide +kernel
theorem d_X_passMinute_23 : decode b_X_passMinute 23 = .ok (.lastore, 1) := by decide +kernel
theorem d_X_passMinute_24 : decode b_X_passMinute 24 = .ok (.iconst 0, 1) := by decide +kernel
theorem d_X_passMinute_25 : decode b_X_passMinute 25 = .ok (.istore_n 1, 1) := by decide +kernel
theorem d_X_passMinute_26 : decode b_X_passMinute 26 = .ok (.iload_n 1, 1) := by decide +kernel
theorem d_X_passMinute_27 : decode b_X_passMinute 27 = .ok (.aload_n 0, 1) := by decide +kernel
theorem d_X_passMinute_28 : decode b_X_passMinute 28 = .ok (.getfield 52, 3) := by decide +kernel
theorem d_X_passMinute_31 : decode b_X_passMinute 31 = .ok (.arraylength, 1) := by decide +kernel
theorem d_X_passMinute_32 : decode b_X_passMinute 32 = .ok (.if_icmp .ge 42, 3) := by decide +kernel
theorem d_X_passMinute_35 : decode b_X_passMinute 35 = .ok (.aload_n 0, 1) := by decide +kernel
theorem d_X_passMinute_36 : decode b_X_passMinute 36 = .ok (.getfield 52, 3) := by decide +kernel
theorem d_X_passMinute_39 : decode b_X_passMinute 39 = .ok (.iload_n 1, 1) := by decide +kernel
theorem d_X_passMinute_40 : decode b_X_passMinute 40 = .ok (.aaload, 1) := by decide +kernel
theorem d_X_passMinute_41 : decode b_X_passMinute 41 = .ok (.astore_n 2, 1) := by decide +kernel
theorem d_X_passMinute_42 : decode b_X_passMinute 42 = .ok (.aload_n 0, 1) := by decide +kernel
theorem d_X_passMinute_43 : decode b_X_passMinute 43 = .ok (.aload_n 2, 1) := by decide +kernel
theorem d_X_passMinute_44 : decode b_X_passMinute 44 = .ok (.invokevirtual 142, 3) := by decide +kernel
theorem d_X_passMinute_47 : decode b_X_passMinute 47 = .ok (.aload_n 0, 1) := by decide +kernel
theorem d_X_passMinute_48 : decode b_X_passMinute 48 = .ok (.aload_n 2, 1) := by decide +kernel
theorem d_X_passMinute_49 : decode b_X_passMinute 49 = .ok (.invokevirtual 146, 3) := by decide +kernel
theorem d_X_passMinute_52 : decode b_X_passMinute 52 = .ok (.aload_n 0, 1) := by decide +kernel
theorem d_X_passMinute_53 : decode b_X_passMinute 53 = .ok (.aload_n 2, 1) := by decide +kernel
theorem d_X_passMinute_54 : decode b_X_passMinute 54 = .ok (.invokevirtual 149, 3) := by decide +kernel
theorem d_X_passMinute_57 : decode b_X_passMinute 57 = .ok (.aload_n 0, 1) := by decide +kernel
theorem d_X_passMinute_58 : decode b_X_passMinute 58 = .ok (.aload_n 2, 1) := by decide +kernel
theorem d_X_passMinute_59 : decode b_X_passMinute 59 = .ok (.invokevirtual 152, 3) := by decide +kernel
theorem d_X_passMinute_62 : decode b_X_passMinute 62 = .ok (.iload_n 1, 1) := by decide +kernel
theorem d_X_passMinute_63 : decode b_X_passMinute 63 = .ok (.iconst 1, 1) := by decide +kernel
theorem d_X_passMinute_64 : decode b_X_passMinute 64 = .ok (.iadd, 1) := by decide +kernel
theorem d_X_passMinute_65 : decode b_X_passMinute 65 = .ok (.invokevirtual 138, 3) := by decide +kernel
theorem d_X_passMinute_68 : decode b_X_passMinute 68 = .ok (.iinc 1 1, 3) := by decide +kernel
theorem d_X_passMinute_71 : decode b_X_passMinute 71 = .ok (.goto (-45), 3) := by decide +kernel
theorem d_X_passMinute_74 : decode b_X_passMinute 74 = .ok (.aload_n 0, 1) := by decide +kernel
theorem d_X_passMinute_75 : decode b_X_passMinute 75 = .ok (.getfield 18, 3) := by decide +kernel
theorem d_X_passMinute_78 : decode b_X_passMinute 78 = .ok (.aload_n 0, 1) := by decide +kernel
theorem d_X_passMinute_79 : decode b_X_passMinute 79 = .ok (.invokevirtual 98, 3) := by decide +kernel
theorem d_X_passMinute_82 : decode b_X_passMinute 82 = .ok (.invokevirtual 155, 3) := by decide +kernel
theorem d_X_passMinute_85 : decode b_X_passMinute 85 = .ok (.aload_n 0, 1) := by decide +kernel
theorem d_X_passMinute_86 : decode b_X_passMinute 86 = .ok (.getfield 22, 3) := by decide +kernel
theorem d_X_passMinute_89 : decode b_X_passMinute 89 = .ok (.bipush 8, 2) := by decide +kernel
theorem d_X_passMinute_91 : decode b_X_passMinute 91 = .ok (.dup2, 1) := by decide +kernel
theorem d_X_passMinute_92 : decode b_X_passMinute 92 = .ok (.laload, 1) := by decide +kernel
theorem d_X_passMinute_93 : decode b_X_passMinute 93 = .ok (.lconst 1, 1) := by decide +kernel
theorem d_X_passMinute_94 : decode b_X_passMinute 94 = .ok (.ladd, 1) := by decide +kernel
theorem d_X_passMinute_95 : decode b_X_passMinute 95 = .ok (.lastore, 1) := by decide +kernel
theorem d_X_passMinute_96 : decode b_X_passMinute 96 = .ok (.return_, 1) := by decide +kernel
theorem d_X_pour_0 : decode b_X_pour 0 = .ok (.aload_n 0, 1) := by decide +kernel
theorem d_X_pour_1 : decode b_X_pour 1 = .ok (.iload_n 3, 1) := by decide +kernel
theorem d_X_pour_2 : decode b_X_pour 2 = .ok (.invokevirtual 63, 3) := by decide +kernel
theorem d_X_pour_5 : decode b_X_pour 5 = .ok (.astore 4, 2) := by decide +kernel
theorem d_X_pour_7 : decode b_X_pour 7 = .ok (.aload 4, 2) := by decide +kernel
theorem d_X_pour_9 : decode b_X_pour 9 = .ok (.ifnonnull 16, 3) := by decide +kernel
theorem d_X_pour_12 : decode b_X_pour 12 = .ok (.aload_n 0, 1) := by decide +kernel
theorem d_X_pour_13 : decode b_X_pour 13 = .ok (.getfield 22, 3) := by decide +kernel
theorem d_X_pour_16 : decode b_X_pour 16 = .ok (.iconst 2, 1) := by decide +kernel
theorem d_X_pour_17 : decode b_X_pour 17 = .ok (.dup2, 1) := by decide +kernel
theorem d_X_pour_18 : decode b_X_pour 18 = .ok (.laload, 1) := by decide +kernel
theorem d_X_pour_19 : decode b_X_pour 19 = .ok (.lload_n 1, 1) := by decide +kernel
theorem d_X_pour_20 : decode b_X_pour 20 = .ok (.ladd, 1) := by decide +kernel
theorem d_X_pour_21 : decode b_X_pour 21 = .ok (.lastore, 1) := by decide +kernel
theorem d_X_pour_22 : decode b_X_pour 22 = .ok (.goto 14, 3) := by decide +kernel
theorem d_X_pour_25 : decode b_X_pour 25 = .ok (.aload 4, 2) := by decide +kernel
theorem d_X_pour_27 : decode b_X_pour 27 = .ok (.getfield 107, 3) := by decide +kernel
theorem d_X_pour_30 : decode b_X_pour 30 = .ok (.iconst 3, 1) := by decide +kernel
theorem d_X_pour_31 : decode b_X_pour 31 = .ok (.dup2, 1) := by decide +kernel
theorem d_X_pour_32 : decode b_X_pour 32 = .ok (.laload, 1) := by decide +kernel
theorem d_X_pour_33 : decode b_X_pour 33 = .ok (.lload_n 1, 1) := by decide +kernel
theorem d_X_pour_34 : decode b_X_pour 34 = .ok (.ladd, 1) := by decide +kernel
theorem d_X_pour_35 : decode b_X_pour 35 = .ok (.lastore, 1) := by decide +kernel
theorem d_X_pour_36 : decode b_X_pour 36 = .ok (.return_, 1) := by decide +kernel
theorem d_X_breakParts_0 : decode b_X_breakParts 0 = .ok (.aload_n 1, 1) := by decide +kernel
theorem d_X_breakParts_1 : decode b_X_breakParts 1 = .ok (.getfield 107, 3) := by decide +kernel
theorem d_X_breakParts_4 : decode b_X_breakParts 4 = .ok (.iconst 3, 1) := by decide +kernel
theorem d_X_breakParts_5 : decode b_X_breakParts 5 = .ok (.laload, 1) := by decide +kernel
theorem d_X_breakParts_6 : decode b_X_breakParts 6 = .ok (.aload_n 1, 1) := by decide +kernel
theorem d_X_breakParts_7 : decode b_X_breakParts 7 = .ok (.getfield 86, 3) := by decide +kernel
theorem d_X_breakParts_10 : decode b_X_breakParts 10 = .ok (.i2l, 1) := by decide +kernel
theorem d_X_breakParts_11 : decode b_X_breakParts 11 = .ok (.lcmp, 1) := by decide +kernel
theorem d_X_breakParts_12 : decode b_X_breakParts 12 = .ok (.ifCond .ge 4, 3) := by decide +kernel
theorem d_X_breakParts_15 : decode b_X_breakParts 15 = .ok (.return_, 1) := by decide +kernel
theorem d_X_breakParts_16 : decode b_X_breakParts 16 = .ok (.aload_n 1, 1) := by decide +kernel
theorem d_X_breakParts_17 : decode b_X_breakParts 17 = .ok (.invokevirtual 110, 3) := by decide +kernel
theorem d_X_breakParts_20 : decode b_X_breakParts 20 = .ok (.lstore_n 2, 1) := by decide +kernel
theorem d_X_breakParts_21 : decode b_X_breakParts 21 = .ok (.iconst 0, 1) := by decide +kernel
theorem d_X_breakParts_22 : decode b_X_breakParts 22 = .ok (.istore 4, 2) := by decide +kernel
theorem d_X_breakParts_24 : decode b_X_breakParts 24 = .ok (.iload 4, 2) := by decide +kernel
theorem d_X_breakParts_26 : decode b_X_breakParts 26 = .ok (.iconst 3, 1) := by decide +kernel
theorem d_X_breakParts_27 : decode b_X_breakParts 27 = .ok (.if_icmp .ge 17, 3) := by decide +kernel
theorem d_X_breakParts_30 : decode b_X_breakParts 30 = .ok (.aload_n 0, 1) := by decide +kernel
theorem d_X_breakParts_31 : decode b_X_breakParts 31 = .ok (.aload_n 1, 1) := by decide +kernel
theorem d_X_breakParts_32 : decode b_X_breakParts 32 = .ok (.iload 4, 2) := by decide +kernel
theorem d_X_breakParts_34 : decode b_X_breakParts 34 = .ok (.lload_n 2, 1) := by decide +kernel
theorem d_X_breakParts_35 : decode b_X_breakParts 35 = .ok (.invokevirtual 159, 3) := by decide +kernel
theorem d_X_breakParts_38 : decode b_X_breakParts 38 = .ok (.iinc 4 1, 3) := by decide +kernel
theorem d_X_breakParts_41 : decode b_X_breakParts 41 = .ok (.goto (-17), 3) := by decide +kernel
theorem d_X_breakParts_44 : decode b_X_breakParts 44 = .ok (.return_, 1) := by decide +kernel
theorem d_X_breakPart_0 : decode b_X_breakPart 0 = .ok (.aload_n 0, 1) := by decide +kernel
theorem d_X_breakPart_1 : decode b_X_breakPart 1 = .ok (.getfield 11, 3) := by decide +kernel
theorem d_X_breakPart_4 : decode b_X_breakPart 4 = .ok (.iload_n 2, 1) := by decide +kernel
theorem d_X_breakPart_5 : decode b_X_breakPart 5 = .ok (.aaload, 1) := by decide +kernel
theorem d_X_breakPart_6 : decode b_X_breakPart 6 = .ok (.astore 5, 2) := by decide +kernel
theorem d_X_breakPart_8 : decode b_X_breakPart 8 = .ok (.aload_n 1, 1) := by decide +kernel
theorem d_X_breakPart_9 : decode b_X_breakPart 9 = .ok (.getfield 107, 3) := by decide +kernel
theorem d_X_breakPart_12 : decode b_X_breakPart 12 = .ok (.iload_n 2, 1) := by decide +kernel
theorem d_X_breakPart_13 : decode b_X_breakPart 13 = .ok (.laload, 1) := by decide +kernel
theorem d_X_breakPart_14 : decode b_X_breakPart 14 = .ok (.aload 5, 2) := by decide +kernel
theorem d_X_breakPart_16 : decode b_X_breakPart 16 = .ok (.lload_n 3, 1) := by decide +kernel
theorem d_X_breakPart_17 : decode b_X_breakPart 17 = .ok (.invokevirtual 163, 3) := by decide +kernel
theorem d_X_breakPart_20 : decode b_X_breakPart 20 = .ok (.i2l, 1) := by decide +kernel
theorem d_X_breakPart_21 : decode b_X_breakPart 21 = .ok (.invokestatic 167, 3) := by decide +kernel
theorem d_X_breakPart_24 : decode b_X_breakPart 24 = .ok (.lstore 6, 2) := by decide +kernel
theorem d_X_breakPart_26 : decode b_X_breakPart 26 = .ok (.lload 6, 2) := by decide +kernel
theorem d_X_breakPart_28 : decode b_X_breakPart 28 = .ok (.aload 5, 2) := by decide +kernel
theorem d_X_breakPart_30 : decode b_X_breakPart 30 = .ok (.getfield 80, 3) := by decide +kernel
theorem d_X_breakPart_33 : decode b_X_breakPart 33 = .ok (.i2l, 1) := by decide +kernel
theorem d_X_breakPart_34 : decode b_X_breakPart 34 = .ok (.lmul, 1) := by decide +kernel
theorem d_X_breakPart_35 : decode b_X_breakPart 35 = .ok (.lstore 8, 2) := by decide +kernel
theorem d_X_breakPart_37 : decode b_X_breakPart 37 = .ok (.lload 6, 2) := by decide +kernel
theorem d_X_breakPart_39 : decode b_X_breakPart 39 = .ok (.aload 5, 2) := by decide +kernel
theorem d_X_breakPart_41 : decode b_X_breakPart 41 = .ok (.getfield 83, 3) := by decide +kernel
theorem d_X_breakPart_44 : decode b_X_breakPart 44 = .ok (.i2l, 1) := by decide +kernel
theorem d_X_breakPart_45 : decode b_X_breakPart 45 = .ok (.lmul, 1) := by decide +kernel
theorem d_X_breakPart_46 : decode b_X_breakPart 46 = .ok (.ldc2_w 170, 3) := by decide +kernel
theorem d_X_breakPart_49 : decode b_X_breakPart 49 = .ok (.ldiv, 1) := by decide +kernel
theorem d_X_breakPart_50 : decode b_X_breakPart 50 = .ok (.lstore 10, 2) := by decide +kernel
theorem d_X_breakPart_52 : decode b_X_breakPart 52 = .ok (.aload_n 1, 1) := by decide +kernel
theorem d_X_breakPart_53 : decode b_X_breakPart 53 = .ok (.getfield 107, 3) := by decide +kernel
theorem d_X_breakPart_56 : decode b_X_breakPart 56 = .ok (.iload_n 2, 1) := by decide +kernel
theorem d_X_breakPart_57 : decode b_X_breakPart 57 = .ok (.dup2, 1) := by decide +kernel
theorem d_X_breakPart_58 : decode b_X_breakPart 58 = .ok (.laload, 1) := by decide +kernel
theorem d_X_breakPart_59 : decode b_X_breakPart 59 = .ok (.lload 6, 2) := by decide +kernel
theorem d_X_breakPart_61 : decode b_X_breakPart 61 = .ok (.lsub, 1) := by decide +kernel
theorem d_X_breakPart_62 : decode b_X_breakPart 62 = .ok (.lastore, 1) := by decide +kernel
theorem d_X_breakPart_63 : decode b_X_breakPart 63 = .ok (.aload_n 1, 1) := by decide +kernel
theorem d_X_breakPart_64 : decode b_X_breakPart 64 = .ok (.getfield 107, 3) := by decide +kernel
theorem d_X_breakPart_67 : decode b_X_breakPart 67 = .ok (.iconst 4, 1) := by decide +kernel
theorem d_X_breakPart_68 : decode b_X_breakPart 68 = .ok (.dup2, 1) := by decide +kernel
theorem d_X_breakPart_69 : decode b_X_breakPart 69 = .ok (.laload, 1) := by decide +kernel
theorem d_X_breakPart_70 : decode b_X_breakPart 70 = .ok (.lload 8, 2) := by decide +kernel
theorem d_X_breakPart_72 : decode b_X_breakPart 72 = .ok (.ladd, 1) := by decide +kernel
theorem d_X_breakPart_73 : decode b_X_breakPart 73 = .ok (.lastore, 1) := by decide +kernel
theorem d_X_breakPart_74 : decode b_X_breakPart 74 = .ok (.aload_n 1, 1) := by decide +kernel
theorem d_X_breakPart_75 : decode b_X_breakPart 75 = .ok (.getfield 107, 3) := by decide +kernel
theorem d_X_breakPart_78 : decode b_X_breakPart 78 = .ok (.iconst 3, 1) := by decide +kernel
theorem d_X_breakPart_79 : decode b_X_breakPart 79 = .ok (.dup2, 1) := by decide +kernel
theorem d_X_breakPart_80 : decode b_X_breakPart 80 = .ok (.laload, 1) := by decide +kernel
theorem d_X_breakPart_81 : decode b_X_breakPart 81 = .ok (.lload 10, 2) := by decide +kernel
theorem d_X_breakPart_83 : decode b_X_breakPart 83 = .ok (.ladd, 1) := by decide +kernel
theorem d_X_breakPart_84 : decode b_X_breakPart 84 = .ok (.lastore, 1) := by decide +kernel
theorem d_X_breakPart_85 : decode b_X_breakPart 85 = .ok (.aload_n 0, 1) := by decide +kernel
theorem d_X_breakPart_86 : decode b_X_breakPart 86 = .ok (.getfield 22, 3) := by decide +kernel
theorem d_X_breakPart_89 : decode b_X_breakPart 89 = .ok (.iconst 0, 1) := by decide +kernel
theorem d_X_breakPart_90 : decode b_X_breakPart 90 = .ok (.dup2, 1) := by decide +kernel
theorem d_X_breakPart_91 : decode b_X_breakPart 91 = .ok (.laload, 1) := by decide +kernel
theorem d_X_breakPart_92 : decode b_X_breakPart 92 = .ok (.lload 6, 2) := by decide +kernel
theorem d_X_breakPart_94 : decode b_X_breakPart 94 = .ok (.ladd, 1) := by decide +kernel
theorem d_X_breakPart_95 : decode b_X_breakPart 95 = .ok (.lastore, 1) := by decide +kernel
theorem d_X_breakPart_96 : decode b_X_breakPart 96 = .ok (.aload_n 0, 1) := by decide +kernel
theorem d_X_breakPart_97 : decode b_X_breakPart 97 = .ok (.getfield 22, 3) := by decide +kernel
theorem d_X_breakPart_100 : decode b_X_breakPart 100 = .ok (.iconst 4, 1) := by decide +kernel
theorem d_X_breakPart_101 : decode b_X_breakPart 101 = .ok (.dup2, 1) := by decide +kernel
theorem d_X_breakPart_102 : decode b_X_breakPart 102 = .ok (.laload, 1) := by decide +kernel
theorem d_X_breakPart_103 : decode b_X_breakPart 103 = .ok (.lload 8, 2) := by decide +kernel
theorem d_X_breakPart_105 : decode b_X_breakPart 105 = .ok (.ladd, 1) := by decide +kernel
theorem d_X_breakPart_106 : decode b_X_breakPart 106 = .ok (.lastore, 1) := by decide +kernel
theorem d_X_breakPart_107 : decode b_X_breakPart 107 = .ok (.aload_n 0, 1) := by decide +kernel
theorem d_X_breakPart_108 : decode b_X_breakPart 108 = .ok (.getfield 22, 3) := by decide +kernel
theorem d_X_breakPart_111 : decode b_X_breakPart 111 = .ok (.bipush 7, 2) := by decide +kernel
theorem d_X_breakPart_113 : decode b_X_breakPart 113 = .ok (.dup2, 1) := by decide +kernel
theorem d_X_breakPart_114 : decode b_X_breakPart 114 = .ok (.laload, 1) := by decide +kernel
theorem d_X_breakPart_115 : decode b_X_breakPart 115 = .ok (.lload 10, 2) := by decide +kernel
theorem d_X_breakPart_117 : decode b_X_breakPart 117 = .ok (.ladd, 1) := by decide +kernel
theorem d_X_breakPart_118 : decode b_X_breakPart 118 = .ok (.lastore, 1) := by decide +kernel
theorem d_X_breakPart_119 : decode b_X_breakPart 119 = .ok (.return_, 1) := by decide +kernel
theorem d_K_millionthsAt_0 : decode b_K_millionthsAt 0 = .ok (.iconst 0, 1) := by decide +kernel
theorem d_K_millionthsAt_1 : decode b_K_millionthsAt 1 = .ok (.istore_n 3, 1) := by decide +kernel
theorem d_K_millionthsAt_2 : decode b_K_millionthsAt 2 = .ok (.iconst 0, 1) := by decide +kernel
theorem d_K_millionthsAt_3 : decode b_K_millionthsAt 3 = .ok (.istore 4, 2) := by decide +kernel
theorem d_K_millionthsAt_5 : decode b_K_millionthsAt 5 = .ok (.iload 4, 2) := by decide +kernel
theorem d_K_millionthsAt_7 : decode b_K_millionthsAt 7 = .ok (.aload_n 0, 1) := by decide +kernel
theorem d_K_millionthsAt_8 : decode b_K_millionthsAt 8 = .ok (.getfield 18, 3) := by decide +kernel
theorem d_K_millionthsAt_11 : decode b_K_millionthsAt 11 = .ok (.if_icmp .ge 36, 3) := by decide +kernel
theorem d_K_millionthsAt_14 : decode b_K_millionthsAt 14 = .ok (.iload 4, 2) := by decide +kernel
theorem d_K_millionthsAt_16 : decode b_K_millionthsAt 16 = .ok (.iconst 4, 1) := by decide +kernel
theorem d_K_millionthsAt_17 : decode b_K_millionthsAt 17 = .ok (.if_icmp .ge 30, 3) := by decide +kernel
theorem d_K_millionthsAt_20 : decode b_K_millionthsAt 20 = .ok (.lload_n 1, 1) := by decide +kernel
theorem d_K_millionthsAt_21 : decode b_K_millionthsAt 21 = .ok (.aload_n 0, 1) := by decide +kernel
theorem d_K_millionthsAt_22 : decode b_K_millionthsAt 22 = .ok (.getfield 9, 3) := by decide +kernel
theorem d_K_millionthsAt_25 : decode b_K_millionthsAt 25 = .ok (.iload 4, 2) := by decide +kernel
theorem d_K_millionthsAt_27 : decode b_K_millionthsAt 27 = .ok (.iaload, 1) := by decide +kernel
theorem d_K_millionthsAt_28 : decode b_K_millionthsAt 28 = .ok (.i2l, 1) := by decide +kernel
theorem d_K_millionthsAt_29 : decode b_K_millionthsAt 29 = .ok (.lcmp, 1) := by decide +kernel
theorem d_K_millionthsAt_30 : decode b_K_millionthsAt 30 = .ok (.ifCond .lt 11, 3) := by decide +kernel
theorem d_K_millionthsAt_33 : decode b_K_millionthsAt 33 = .ok (.aload_n 0, 1) := by decide +kernel
theorem d_K_millionthsAt_34 : decode b_K_millionthsAt 34 = .ok (.getfield 15, 3) := by decide +kernel
theorem d_K_millionthsAt_37 : decode b_K_millionthsAt 37 = .ok (.iload 4, 2) := by decide +kernel
theorem d_K_millionthsAt_39 : decode b_K_millionthsAt 39 = .ok (.iaload, 1) := by decide +kernel
theorem d_K_millionthsAt_40 : decode b_K_millionthsAt 40 = .ok (.istore_n 3, 1) := by decide +kernel
theorem d_K_millionthsAt_41 : decode b_K_millionthsAt 41 = .ok (.iinc 4 1, 3) := by decide +kernel
theorem d_K_millionthsAt_44 : decode b_K_millionthsAt 44 = .ok (.goto (-39), 3) := by decide +kernel
theorem d_K_millionthsAt_47 : decode b_K_millionthsAt 47 = .ok (.iload_n 3, 1) := by decide +kernel
theorem d_K_millionthsAt_48 : decode b_K_millionthsAt 48 = .ok (.ireturn, 1) := by decide +kernel
theorem d_X_millionthsOf_0 : decode b_X_millionthsOf 0 = .ok (.lload_n 0, 1) := by decide +kernel
theorem d_X_millionthsOf_1 : decode b_X_millionthsOf 1 = .ok (.ldc2_w 127, 3) := by decide +kernel
theorem d_X_millionthsOf_4 : decode b_X_millionthsOf 4 = .ok (.ldiv, 1) := by decide +kernel
theorem d_X_millionthsOf_5 : decode b_X_millionthsOf 5 = .ok (.lload_n 2, 1) := by decide +kernel
theorem d_X_millionthsOf_6 : decode b_X_millionthsOf 6 = .ok (.lmul, 1) := by decide +kernel
theorem d_X_millionthsOf_7 : decode b_X_millionthsOf 7 = .ok (.lload_n 0, 1) := by decide +kernel
theorem d_X_millionthsOf_8 : decode b_X_millionthsOf 8 = .ok (.ldc2_w 127, 3) := by decide +kernel
theorem d_X_millionthsOf_11 : decode b_X_millionthsOf 11 = .ok (.lrem, 1) := by decide +kernel
theorem d_X_millionthsOf_12 : decode b_X_millionthsOf 12 = .ok (.lload_n 2, 1) := by decide +kernel
theorem d_X_millionthsOf_13 : decode b_X_millionthsOf 13 = .ok (.lmul, 1) := by decide +kernel
theorem d_X_millionthsOf_14 : decode b_X_millionthsOf 14 = .ok (.ldc2_w 127, 3) := by decide +kernel
theorem d_X_millionthsOf_17 : decode b_X_millionthsOf 17 = .ok (.ldiv, 1) := by decide +kernel
theorem d_X_millionthsOf_18 : decode b_X_millionthsOf 18 = .ok (.ladd, 1) := by decide +kernel
theorem d_X_millionthsOf_19 : decode b_X_millionthsOf 19 = .ok (.lreturn, 1) := by decide +kernel
theorem d_X_loseHeat_0 : decode b_X_loseHeat 0 = .ok (.aload_n 1, 1) := by decide +kernel
theorem d_X_loseHeat_1 : decode b_X_loseHeat 1 = .ok (.getfield 107, 3) := by decide +kernel
theorem d_X_loseHeat_4 : decode b_X_loseHeat 4 = .ok (.iconst 4, 1) := by decide +kernel
theorem d_X_loseHeat_5 : decode b_X_loseHeat 5 = .ok (.laload, 1) := by decide +kernel
theorem d_X_loseHeat_6 : decode b_X_loseHeat 6 = .ok (.aload_n 0, 1) := by decide +kernel
theorem d_X_loseHeat_7 : decode b_X_loseHeat 7 = .ok (.getfield 36, 3) := by decide +kernel
theorem d_X_loseHeat_10 : decode b_X_loseHeat 10 = .ok (.i2l, 1) := by decide +kernel
theorem d_X_loseHeat_11 : decode b_X_loseHeat 11 = .ok (.invokestatic 167, 3) := by decide +kernel
theorem d_X_loseHeat_14 : decode b_X_loseHeat 14 = .ok (.lstore_n 2, 1) := by decide +kernel
theorem d_X_loseHeat_15 : decode b_X_loseHeat 15 = .ok (.aload_n 1, 1) := by decide +kernel
theorem d_X_loseHeat_16 : decode b_X_loseHeat 16 = .ok (.getfield 107, 3) := by decide +kernel
theorem d_X_loseHeat_19 : decode b_X_loseHeat 19 = .ok (.iconst 4, 1) := by decide +kernel
theorem d_X_loseHeat_20 : decode b_X_loseHeat 20 = .ok (.dup2, 1) := by decide +kernel
theorem d_X_loseHeat_21 : decode b_X_loseHeat 21 = .ok (.laload, 1) := by decide +kernel
theorem d_X_loseHeat_22 : decode b_X_loseHeat 22 = .ok (.lload_n 2, 1) := by decide +kernel
theorem d_X_loseHeat_23 : decode b_X_loseHeat 23 = .ok (.lsub, 1) := by decide +kernel
theorem d_X_loseHeat_24 : decode b_X_loseHeat 24 = .ok (.lastore, 1) := by decide +kernel
theorem d_X_loseHeat_25 : decode b_X_loseHeat 25 = .ok (.aload_n 0, 1) := by decide +kernel
theorem d_X_loseHeat_26 : decode b_X_loseHeat 26 = .ok (.getfield 22, 3) := by decide +kernel
theorem d_X_loseHeat_29 : decode b_X_loseHeat 29 = .ok (.iconst 5, 1) := by decide +kernel
theorem d_X_loseHeat_30 : decode b_X_loseHeat 30 = .ok (.dup2, 1) := by decide +kernel
theorem d_X_loseHeat_31 : decode b_X_loseHeat 31 = .ok (.laload, 1) := by decide +kernel
theorem d_X_loseHeat_32 : decode b_X_loseHeat 32 = .ok (.lload_n 2, 1) := by decide +kernel
theorem d_X_loseHeat_33 : decode b_X_loseHeat 33 = .ok (.ladd, 1) := by decide +kernel
theorem d_X_loseHeat_34 : decode b_X_loseHeat 34 = .ok (.lastore, 1) := by decide +kernel
theorem d_X_loseHeat_35 : decode b_X_loseHeat 35 = .ok (.return_, 1) := by decide +kernel
theorem d_X_driveOff_0 : decode b_X_driveOff 0 = .ok (.aload_n 1, 1) := by decide +kernel
theorem d_X_driveOff_1 : decode b_X_driveOff 1 = .ok (.getfield 107, 3) := by decide +kernel
theorem d_X_driveOff_4 : decode b_X_driveOff 4 = .ok (.iconst 3, 1) := by decide +kernel
theorem d_X_driveOff_5 : decode b_X_driveOff 5 = .ok (.laload, 1) := by decide +kernel
theorem d_X_driveOff_6 : decode b_X_driveOff 6 = .ok (.aload_n 0, 1) := by decide +kernel
theorem d_X_driveOff_7 : decode b_X_driveOff 7 = .ok (.getfield 18, 3) := by decide +kernel
theorem d_X_driveOff_10 : decode b_X_driveOff 10 = .ok (.getfield 113, 3) := by decide +kernel
theorem d_X_driveOff_13 : decode b_X_driveOff 13 = .ok (.i2l, 1) := by decide +kernel
theorem d_X_driveOff_14 : decode b_X_driveOff 14 = .ok (.invokestatic 167, 3) := by decide +kernel
theorem d_X_driveOff_17 : decode b_X_driveOff 17 = .ok (.lstore_n 2, 1) := by decide +kernel
theorem d_X_driveOff_18 : decode b_X_driveOff 18 = .ok (.lload_n 2, 1) := by decide +kernel
theorem d_X_driveOff_19 : decode b_X_driveOff 19 = .ok (.ldc2_w 172, 3) := by decide +kernel
theorem d_X_driveOff_22 : decode b_X_driveOff 22 = .ok (.lmul, 1) := by decide +kernel
theorem d_X_driveOff_23 : decode b_X_driveOff 23 = .ok (.aload_n 1, 1) := by decide +kernel
theorem d_X_driveOff_24 : decode b_X_driveOff 24 = .ok (.getfield 107, 3) := by decide +kernel
theorem d_X_driveOff_27 : decode b_X_driveOff 27 = .ok (.iconst 4, 1) := by decide +kernel
theorem d_X_driveOff_28 : decode b_X_driveOff 28 = .ok (.laload, 1) := by decide +kernel
theorem d_X_driveOff_29 : decode b_X_driveOff 29 = .ok (.invokestatic 129, 3) := by decide +kernel
theorem d_X_driveOff_32 : decode b_X_driveOff 32 = .ok (.lstore 4, 2) := by decide +kernel
theorem d_X_driveOff_34 : decode b_X_driveOff 34 = .ok (.aload_n 1, 1) := by decide +kernel
theorem d_X_driveOff_35 : decode b_X_driveOff 35 = .ok (.getfield 107, 3) := by decide +kernel
theorem d_X_driveOff_38 : decode b_X_driveOff 38 = .ok (.iconst 3, 1) := by decide +kernel
theorem d_X_driveOff_39 : decode b_X_driveOff 39 = .ok (.dup2, 1) := by decide +kernel
theorem d_X_driveOff_40 : decode b_X_driveOff 40 = .ok (.laload, 1) := by decide +kernel
theorem d_X_driveOff_41 : decode b_X_driveOff 41 = .ok (.lload_n 2, 1) := by decide +kernel
theorem d_X_driveOff_42 : decode b_X_driveOff 42 = .ok (.lsub, 1) := by decide +kernel
theorem d_X_driveOff_43 : decode b_X_driveOff 43 = .ok (.lastore, 1) := by decide +kernel
theorem d_X_driveOff_44 : decode b_X_driveOff 44 = .ok (.aload_n 1, 1) := by decide +kernel
theorem d_X_driveOff_45 : decode b_X_driveOff 45 = .ok (.getfield 107, 3) := by decide +kernel
theorem d_X_driveOff_48 : decode b_X_driveOff 48 = .ok (.iconst 4, 1) := by decide +kernel
theorem d_X_driveOff_49 : decode b_X_driveOff 49 = .ok (.dup2, 1) := by decide +kernel
theorem d_X_driveOff_50 : decode b_X_driveOff 50 = .ok (.laload, 1) := by decide +kernel
theorem d_X_driveOff_51 : decode b_X_driveOff 51 = .ok (.lload 4, 2) := by decide +kernel
theorem d_X_driveOff_53 : decode b_X_driveOff 53 = .ok (.lsub, 1) := by decide +kernel
theorem d_X_driveOff_54 : decode b_X_driveOff 54 = .ok (.lastore, 1) := by decide +kernel
theorem d_X_driveOff_55 : decode b_X_driveOff 55 = .ok (.aload_n 0, 1) := by decide +kernel
theorem d_X_driveOff_56 : decode b_X_driveOff 56 = .ok (.getfield 22, 3) := by decide +kernel
theorem d_X_driveOff_59 : decode b_X_driveOff 59 = .ok (.iconst 1, 1) := by decide +kernel
theorem d_X_driveOff_60 : decode b_X_driveOff 60 = .ok (.dup2, 1) := by decide +kernel
theorem d_X_driveOff_61 : decode b_X_driveOff 61 = .ok (.laload, 1) := by decide +kernel
theorem d_X_driveOff_62 : decode b_X_driveOff 62 = .ok (.lload_n 2, 1) := by decide +kernel
theorem d_X_driveOff_63 : decode b_X_driveOff 63 = .ok (.ladd, 1) := by decide +kernel
theorem d_X_driveOff_64 : decode b_X_driveOff 64 = .ok (.lastore, 1) := by decide +kernel
theorem d_X_driveOff_65 : decode b_X_driveOff 65 = .ok (.aload_n 0, 1) := by decide +kernel
theorem d_X_driveOff_66 : decode b_X_driveOff 66 = .ok (.getfield 22, 3) := by decide +kernel
theorem d_X_driveOff_69 : decode b_X_driveOff 69 = .ok (.bipush 6, 2) := by decide +kernel
theorem d_X_driveOff_71 : decode b_X_driveOff 71 = .ok (.dup2, 1) := by decide +kernel
theorem d_X_driveOff_72 : decode b_X_driveOff 72 = .ok (.laload, 1) := by decide +kernel
theorem d_X_driveOff_73 : decode b_X_driveOff 73 = .ok (.lload 4, 2) := by decide +kernel
theorem d_X_driveOff_75 : decode b_X_driveOff 75 = .ok (.ladd, 1) := by decide +kernel
theorem d_X_driveOff_76 : decode b_X_driveOff 76 = .ok (.lastore, 1) := by decide +kernel
theorem d_X_driveOff_77 : decode b_X_driveOff 77 = .ok (.return_, 1) := by decide +kernel
theorem d_Y_takeSurplus_0 : decode b_Y_takeSurplus 0 = .ok (.lconst 0, 1) := by decide +kernel
theorem d_Y_takeSurplus_1 : decode b_Y_takeSurplus 1 = .ok (.aload_n 0, 1) := by decide +kernel
theorem d_Y_takeSurplus_2 : decode b_Y_takeSurplus 2 = .ok (.getfield 9, 3) := by decide +kernel
theorem d_Y_takeSurplus_5 : decode b_Y_takeSurplus 5 = .ok (.iconst 3, 1) := by decide +kernel
theorem d_Y_takeSurplus_6 : decode b_Y_takeSurplus 6 = .ok (.laload, 1) := by decide +kernel
theorem d_Y_takeSurplus_7 : decode b_Y_takeSurplus 7 = .ok (.aload_n 0, 1) := by decide +kernel
theorem d_Y_takeSurplus_8 : decode b_Y_takeSurplus 8 = .ok (.getfield 20, 3) := by decide +kernel
theorem d_Y_takeSurplus_11 : decode b_Y_takeSurplus 11 = .ok (.i2l, 1) := by decide +kernel
theorem d_Y_takeSurplus_12 : decode b_Y_takeSurplus 12 = .ok (.lsub, 1) := by decide +kernel
theorem d_Y_takeSurplus_13 : decode b_Y_takeSurplus 13 = .ok (.invokestatic 27, 3) := by decide +kernel
theorem d_Y_takeSurplus_16 : decode b_Y_takeSurplus 16 = .ok (.lstore_n 1, 1) := by decide +kernel
theorem d_Y_takeSurplus_17 : decode b_Y_takeSurplus 17 = .ok (.aload_n 0, 1) := by decide +kernel
theorem d_Y_takeSurplus_18 : decode b_Y_takeSurplus 18 = .ok (.getfield 9, 3) := by decide +kernel
theorem d_Y_takeSurplus_21 : decode b_Y_takeSurplus 21 = .ok (.iconst 3, 1) := by decide +kernel
theorem d_Y_takeSurplus_22 : decode b_Y_takeSurplus 22 = .ok (.dup2, 1) := by decide +kernel
theorem d_Y_takeSurplus_23 : decode b_Y_takeSurplus 23 = .ok (.laload, 1) := by decide +kernel
theorem d_Y_takeSurplus_24 : decode b_Y_takeSurplus 24 = .ok (.lload_n 1, 1) := by decide +kernel
theorem d_Y_takeSurplus_25 : decode b_Y_takeSurplus 25 = .ok (.lsub, 1) := by decide +kernel
theorem d_Y_takeSurplus_26 : decode b_Y_takeSurplus 26 = .ok (.lastore, 1) := by decide +kernel
theorem d_Y_takeSurplus_27 : decode b_Y_takeSurplus 27 = .ok (.lload_n 1, 1) := by decide +kernel
theorem d_Y_takeSurplus_28 : decode b_Y_takeSurplus 28 = .ok (.lreturn, 1) := by decide +kernel
theorem d_F_adjust_0 : decode b_F_adjust 0 = .ok (.aload_n 0, 1) := by decide +kernel
theorem d_F_adjust_1 : decode b_F_adjust 1 = .ok (.getfield 9, 3) := by decide +kernel
theorem d_F_adjust_4 : decode b_F_adjust 4 = .ok (.ifCond .ne 4, 3) := by decide +kernel
theorem d_F_adjust_7 : decode b_F_adjust 7 = .ok (.return_, 1) := by decide +kernel
theorem d_F_adjust_8 : decode b_F_adjust 8 = .ok (.lload_n 1, 1) := by decide +kernel
theorem d_F_adjust_9 : decode b_F_adjust 9 = .ok (.aload_n 0, 1) := by decide +kernel
theorem d_F_adjust_10 : decode b_F_adjust 10 = .ok (.getfield 15, 3) := by decide +kernel
theorem d_F_adjust_13 : decode b_F_adjust 13 = .ok (.i2l, 1) := by decide +kernel
theorem d_F_adjust_14 : decode b_F_adjust 14 = .ok (.lsub, 1) := by decide +kernel
theorem d_F_adjust_15 : decode b_F_adjust 15 = .ok (.lstore_n 3, 1) := by decide +kernel
theorem d_F_adjust_16 : decode b_F_adjust 16 = .ok (.aload_n 0, 1) := by decide +kernel
theorem d_F_adjust_17 : decode b_F_adjust 17 = .ok (.aload_n 0, 1) := by decide +kernel
theorem d_F_adjust_18 : decode b_F_adjust 18 = .ok (.getfield 25, 3) := by decide +kernel
theorem d_F_adjust_21 : decode b_F_adjust 21 = .ok (.lload_n 3, 1) := by decide +kernel
theorem d_F_adjust_22 : decode b_F_adjust 22 = .ok (.ladd, 1) := by decide +kernel
theorem d_F_adjust_23 : decode b_F_adjust 23 = .ok (.ldc2_w 32, 3) := by decide +kernel
theorem d_F_adjust_26 : decode b_F_adjust 26 = .ok (.ldc2_w 34, 3) := by decide +kernel
theorem d_F_adjust_29 : decode b_F_adjust 29 = .ok (.invokestatic 36, 3) := by decide +kernel
theorem d_F_adjust_32 : decode b_F_adjust 32 = .ok (.putfield 25, 3) := by decide +kernel
theorem d_F_adjust_35 : decode b_F_adjust 35 = .ok (.aload_n 0, 1) := by decide +kernel
theorem d_F_adjust_36 : decode b_F_adjust 36 = .ok (.aload_n 0, 1) := by decide +kernel
theorem d_F_adjust_37 : decode b_F_adjust 37 = .ok (.getfield 19, 3) := by decide +kernel
theorem d_F_adjust_40 : decode b_F_adjust 40 = .ok (.i2l, 1) := by decide +kernel
theorem d_F_adjust_41 : decode b_F_adjust 41 = .ok (.lload_n 3, 1) := by decide +kernel
theorem d_F_adjust_42 : decode b_F_adjust 42 = .ok (.lmul, 1) := by decide +kernel
theorem d_F_adjust_43 : decode b_F_adjust 43 = .ok (.aload_n 0, 1) := by decide +kernel
theorem d_F_adjust_44 : decode b_F_adjust 44 = .ok (.getfield 22, 3) := by decide +kernel
theorem d_F_adjust_47 : decode b_F_adjust 47 = .ok (.i2l, 1) := by decide +kernel
theorem d_F_adjust_48 : decode b_F_adjust 48 = .ok (.aload_n 0, 1) := by decide +kernel
theorem d_F_adjust_49 : decode b_F_adjust 49 = .ok (.getfield 25, 3) := by decide +kernel
theorem d_F_adjust_52 : decode b_F_adjust 52 = .ok (.lmul, 1) := by decide +kernel
theorem d_F_adjust_53 : decode b_F_adjust 53 = .ok (.ladd, 1) := by decide +kernel
theorem d_F_adjust_54 : decode b_F_adjust 54 = .ok (.ldc2_w 40, 3) := by decide +kernel
theorem d_F_adjust_57 : decode b_F_adjust 57 = .ok (.invokestatic 42, 3) := by decide +kernel
theorem d_F_adjust_60 : decode b_F_adjust 60 = .ok (.lconst 0, 1) := by decide +kernel
theorem d_F_adjust_61 : decode b_F_adjust 61 = .ok (.ldc2_w 40, 3) := by decide +kernel
theorem d_F_adjust_64 : decode b_F_adjust 64 = .ok (.invokestatic 36, 3) := by decide +kernel
theorem d_F_adjust_67 : decode b_F_adjust 67 = .ok (.l2i, 1) := by decide +kernel
theorem d_F_adjust_68 : decode b_F_adjust 68 = .ok (.putfield 29, 3) := by decide +kernel
theorem d_F_adjust_71 : decode b_F_adjust 71 = .ok (.return_, 1) := by decide +kernel
theorem d_X_cut_0 : decode b_X_cut 0 = .ok (.lload_n 2, 1) := by decide +kernel
theorem d_X_cut_1 : decode b_X_cut 1 = .ok (.lload 4, 2) := by decide +kernel
theorem d_X_cut_3 : decode b_X_cut 3 = .ok (.lload_n 0, 1) := by decide +kernel
theorem d_X_cut_4 : decode b_X_cut 4 = .ok (.invokestatic 129, 3) := by decide +kernel
theorem d_X_cut_7 : decode b_X_cut 7 = .ok (.invokestatic 135, 3) := by decide +kernel
theorem d_X_cut_10 : decode b_X_cut 10 = .ok (.lreturn, 1) := by decide +kernel
theorem d_J_floorDiv_0 : decode b_J_floorDiv 0 = .ok (.lload_n 0, 1) := by decide +kernel
theorem d_J_floorDiv_1 : decode b_J_floorDiv 1 = .ok (.lload_n 2, 1) := by decide +kernel
theorem d_J_floorDiv_2 : decode b_J_floorDiv 2 = .ok (.ldiv, 1) := by decide +kernel
theorem d_J_floorDiv_3 : decode b_J_floorDiv 3 = .ok (.lstore 4, 2) := by decide +kernel
theorem d_J_floorDiv_5 : decode b_J_floorDiv 5 = .ok (.lload_n 0, 1) := by decide +kernel
theorem d_J_floorDiv_6 : decode b_J_floorDiv 6 = .ok (.lload_n 2, 1) := by decide +kernel
theorem d_J_floorDiv_7 : decode b_J_floorDiv 7 = .ok (.lxor, 1) := by decide +kernel
theorem d_J_floorDiv_8 : decode b_J_floorDiv 8 = .ok (.lconst 0, 1) := by decide +kernel
theorem d_J_floorDiv_9 : decode b_J_floorDiv 9 = .ok (.lcmp, 1) := by decide +kernel
theorem d_J_floorDiv_10 : decode b_J_floorDiv 10 = .ok (.ifCond .ge 17, 3) := by decide +kernel
theorem d_J_floorDiv_13 : decode b_J_floorDiv 13 = .ok (.lload 4, 2) := by decide +kernel
theorem d_J_floorDiv_15 : decode b_J_floorDiv 15 = .ok (.lload_n 2, 1) := by decide +kernel
theorem d_J_floorDiv_16 : decode b_J_floorDiv 16 = .ok (.lmul, 1) := by decide +kernel
theorem d_J_floorDiv_17 : decode b_J_floorDiv 17 = .ok (.lload_n 0, 1) := by decide +kernel
theorem d_J_floorDiv_18 : decode b_J_floorDiv 18 = .ok (.lcmp, 1) := by decide +kernel
theorem d_J_floorDiv_19 : decode b_J_floorDiv 19 = .ok (.ifCond .eq 8, 3) := by decide +kernel
theorem d_J_floorDiv_22 : decode b_J_floorDiv 22 = .ok (.lload 4, 2) := by decide +kernel
theorem d_J_floorDiv_24 : decode b_J_floorDiv 24 = .ok (.lconst 1, 1) := by decide +kernel
theorem d_J_floorDiv_25 : decode b_J_floorDiv 25 = .ok (.lsub, 1) := by decide +kernel
theorem d_J_floorDiv_26 : decode b_J_floorDiv 26 = .ok (.lreturn, 1) := by decide +kernel
theorem d_J_floorDiv_27 : decode b_J_floorDiv 27 = .ok (.lload 4, 2) := by decide +kernel
theorem d_J_floorDiv_29 : decode b_J_floorDiv 29 = .ok (.lreturn, 1) := by decide +kernel
theorem d_X_left_0 : decode b_X_left 0 = .ok (.aload_n 0, 1) := by decide +kernel
theorem d_X_left_1 : decode b_X_left 1 = .ok (.iload_n 1, 1) := by decide +kernel
theorem d_X_left_2 : decode b_X_left 2 = .ok (.invokevirtual 63, 3) := by decide +kernel
theorem d_X_left_5 : decode b_X_left 5 = .ok (.astore_n 3, 1) := by decide +kernel
theorem d_X_left_6 : decode b_X_left 6 = .ok (.aload_n 3, 1) := by decide +kernel
theorem d_X_left_7 : decode b_X_left 7 = .ok (.ifnull 10, 3) := by decide +kernel
theorem d_X_left_10 : decode b_X_left 10 = .ok (.iload_n 2, 1) := by decide +kernel
theorem d_X_left_11 : decode b_X_left 11 = .ok (.invokestatic 58, 3) := by decide +kernel
theorem d_X_left_14 : decode b_X_left 14 = .ok (.ifCond .ne 9, 3) := by decide +kernel
theorem d_X_left_17 : decode b_X_left 17 = .ok (.ldc2_w 105, 3) := by decide +kernel
theorem d_X_left_20 : decode b_X_left 20 = .ok (.goto 9, 3) := by decide +kernel
theorem d_X_left_23 : decode b_X_left 23 = .ok (.aload_n 3, 1) := by decide +kernel
theorem d_X_left_24 : decode b_X_left 24 = .ok (.getfield 107, 3) := by decide +kernel
theorem d_X_left_27 : decode b_X_left 27 = .ok (.iload_n 2, 1) := by decide +kernel
theorem d_X_left_28 : decode b_X_left 28 = .ok (.laload, 1) := by decide +kernel
theorem d_X_left_29 : decode b_X_left 29 = .ok (.lreturn, 1) := by decide +kernel
theorem d_X_wet_0 : decode b_X_wet 0 = .ok (.aload_n 0, 1) := by decide +kernel
theorem d_X_wet_1 : decode b_X_wet 1 = .ok (.iload_n 1, 1) := by decide +kernel
theorem d_X_wet_2 : decode b_X_wet 2 = .ok (.invokevirtual 63, 3) := by decide +kernel
theorem d_X_wet_5 : decode b_X_wet 5 = .ok (.astore_n 2, 1) := by decide +kernel
theorem d_X_wet_6 : decode b_X_wet 6 = .ok (.aload_n 2, 1) := by decide +kernel
theorem d_X_wet_7 : decode b_X_wet 7 = .ok (.ifnonnull 9, 3) := by decide +kernel
theorem d_X_wet_10 : decode b_X_wet 10 = .ok (.ldc2_w 105, 3) := by decide +kernel
theorem d_X_wet_13 : decode b_X_wet 13 = .ok (.goto 9, 3) := by decide +kernel
theorem d_X_wet_16 : decode b_X_wet 16 = .ok (.aload_n 2, 1) := by decide +kernel
theorem d_X_wet_17 : decode b_X_wet 17 = .ok (.getfield 107, 3) := by decide +kernel
theorem d_X_wet_20 : decode b_X_wet 20 = .ok (.iconst 3, 1) := by decide +kernel
theorem d_X_wet_21 : decode b_X_wet 21 = .ok (.laload, 1) := by decide +kernel
theorem d_X_wet_22 : decode b_X_wet 22 = .ok (.lreturn, 1) := by decide +kernel
theorem d_X_warmth_0 : decode b_X_warmth 0 = .ok (.aload_n 0, 1) := by decide +kernel
theorem d_X_warmth_1 : decode b_X_warmth 1 = .ok (.iload_n 1, 1) := by decide +kernel
theorem d_X_warmth_2 : decode b_X_warmth 2 = .ok (.invokevirtual 63, 3) := by decide +kernel
theorem d_X_warmth_5 : decode b_X_warmth 5 = .ok (.astore_n 2, 1) := by decide +kernel
theorem d_X_warmth_6 : decode b_X_warmth 6 = .ok (.aload_n 2, 1) := by decide +kernel
theorem d_X_warmth_7 : decode b_X_warmth 7 = .ok (.ifnonnull 9, 3) := by decide +kernel
theorem d_X_warmth_10 : decode b_X_warmth 10 = .ok (.ldc2_w 105, 3) := by decide +kernel
theorem d_X_warmth_13 : decode b_X_warmth 13 = .ok (.goto 7, 3) := by decide +kernel
theorem d_X_warmth_16 : decode b_X_warmth 16 = .ok (.aload_n 2, 1) := by decide +kernel
theorem d_X_warmth_17 : decode b_X_warmth 17 = .ok (.invokevirtual 110, 3) := by decide +kernel
theorem d_X_warmth_20 : decode b_X_warmth 20 = .ok (.lreturn, 1) := by decide +kernel
theorem d_X_air_0 : decode b_X_air 0 = .ok (.aload_n 0, 1) := by decide +kernel
theorem d_X_air_1 : decode b_X_air 1 = .ok (.getfield 18, 3) := by decide +kernel
theorem d_X_air_4 : decode b_X_air 4 = .ok (.getfield 113, 3) := by decide +kernel
theorem d_X_air_7 : decode b_X_air 7 = .ok (.ireturn, 1) := by decide +kernel
theorem d_X_turn_0 : decode b_X_turn 0 = .ok (.iconst 0, 1) := by decide +kernel
theorem d_X_turn_1 : decode b_X_turn 1 = .ok (.istore_n 1, 1) := by decide +kernel
theorem d_X_turn_2 : decode b_X_turn 2 = .ok (.iload_n 1, 1) := by decide +kernel
theorem d_X_turn_3 : decode b_X_turn 3 = .ok (.iconst 5, 1) := by decide +kernel
theorem d_X_turn_4 : decode b_X_turn 4 = .ok (.if_icmp .ge 14, 3) := by decide +kernel
theorem d_X_turn_7 : decode b_X_turn 7 = .ok (.aload_n 0, 1) := by decide +kernel
theorem d_X_turn_8 : decode b_X_turn 8 = .ok (.iload_n 1, 1) := by decide +kernel
theorem d_X_turn_9 : decode b_X_turn 9 = .ok (.invokevirtual 116, 3) := by decide +kernel
theorem d_X_turn_12 : decode b_X_turn 12 = .ok (.iinc 1 1, 3) := by decide +kernel
theorem d_X_turn_15 : decode b_X_turn 15 = .ok (.goto (-13), 3) := by decide +kernel
theorem d_X_turn_18 : decode b_X_turn 18 = .ok (.aload_n 0, 1) := by decide +kernel
theorem d_X_turn_19 : decode b_X_turn 19 = .ok (.dup, 1) := by decide +kernel
theorem d_X_turn_20 : decode b_X_turn 20 = .ok (.getfield 43, 3) := by decide +kernel
theorem d_X_turn_23 : decode b_X_turn 23 = .ok (.iconst 1, 1) := by decide +kernel
theorem d_X_turn_24 : decode b_X_turn 24 = .ok (.iadd, 1) := by decide +kernel
theorem d_X_turn_25 : decode b_X_turn 25 = .ok (.putfield 43, 3) := by decide +kernel
theorem d_X_turn_28 : decode b_X_turn 28 = .ok (.aload_n 0, 1) := by decide +kernel
theorem d_X_turn_29 : decode b_X_turn 29 = .ok (.getfield 43, 3) := by decide +kernel
theorem d_X_turn_32 : decode b_X_turn 32 = .ok (.ireturn, 1) := by decide +kernel
theorem d_X_shareOut_0 : decode b_X_shareOut 0 = .ok (.aload_n 0, 1) := by decide +kernel
theorem d_X_shareOut_1 : decode b_X_shareOut 1 = .ok (.getfield 52, 3) := by decide +kernel
theorem d_X_shareOut_4 : decode b_X_shareOut 4 = .ok (.arraylength, 1) := by decide +kernel
theorem d_X_shareOut_5 : decode b_X_shareOut 5 = .ok (.istore_n 2, 1) := by decide +kernel
theorem d_X_shareOut_6 : decode b_X_shareOut 6 = .ok (.iload_n 2, 1) := by decide +kernel
theorem d_X_shareOut_7 : decode b_X_shareOut 7 = .ok (.ifCond .ne 4, 3) := by decide +kernel
theorem d_X_shareOut_10 : decode b_X_shareOut 10 = .ok (.return_, 1) := by decide +kernel
theorem d_X_shareOut_11 : decode b_X_shareOut 11 = .ok (.aload_n 0, 1) := by decide +kernel
theorem d_X_shareOut_12 : decode b_X_shareOut 12 = .ok (.iload_n 1, 1) := by decide +kernel
theorem d_X_shareOut_13 : decode b_X_shareOut 13 = .ok (.invokevirtual 174, 3) := by decide +kernel
theorem d_X_shareOut_16 : decode b_X_shareOut 16 = .ok (.lstore_n 3, 1) := by decide +kernel
theorem d_X_shareOut_17 : decode b_X_shareOut 17 = .ok (.lload_n 3, 1) := by decide +kernel
theorem d_X_shareOut_18 : decode b_X_shareOut 18 = .ok (.iload_n 2, 1) := by decide +kernel
theorem d_X_shareOut_19 : decode b_X_shareOut 19 = .ok (.i2l, 1) := by decide +kernel
theorem d_X_shareOut_20 : decode b_X_shareOut 20 = .ok (.ldiv, 1) := by decide +kernel
theorem d_X_shareOut_21 : decode b_X_shareOut 21 = .ok (.lstore 5, 2) := by decide +kernel
theorem d_X_shareOut_23 : decode b_X_shareOut 23 = .ok (.lload_n 3, 1) := by decide +kernel
theorem d_X_shareOut_24 : decode b_X_shareOut 24 = .ok (.iload_n 2, 1) := by decide +kernel
theorem d_X_shareOut_25 : decode b_X_shareOut 25 = .ok (.i2l, 1) := by decide +kernel
theorem d_X_shareOut_26 : decode b_X_shareOut 26 = .ok (.lrem, 1) := by decide +kernel
theorem d_X_shareOut_27 : decode b_X_shareOut 27 = .ok (.lstore 7, 2) := by decide +kernel
theorem d_X_shareOut_29 : decode b_X_shareOut 29 = .ok (.iconst 0, 1) := by decide +kernel
theorem d_X_shareOut_30 : decode b_X_shareOut 30 = .ok (.istore 9, 2) := by decide +kernel
theorem d_X_shareOut_32 : decode b_X_shareOut 32 = .ok (.iload 9, 2) := by decide +kernel
theorem d_X_shareOut_34 : decode b_X_shareOut 34 = .ok (.iload_n 2, 1) := by decide +kernel
theorem d_X_shareOut_35 : decode b_X_shareOut 35 = .ok (.if_icmp .ge 39, 3) := by decide +kernel
theorem d_X_shareOut_38 : decode b_X_shareOut 38 = .ok (.aload_n 0, 1) := by decide +kernel
theorem d_X_shareOut_39 : decode b_X_shareOut 39 = .ok (.getfield 52, 3) := by decide +kernel
theorem d_X_shareOut_42 : decode b_X_shareOut 42 = .ok (.iload 9, 2) := by decide +kernel
theorem d_X_shareOut_44 : decode b_X_shareOut 44 = .ok (.aaload, 1) := by decide +kernel
theorem d_X_shareOut_45 : decode b_X_shareOut 45 = .ok (.getfield 107, 3) := by decide +kernel
theorem d_X_shareOut_48 : decode b_X_shareOut 48 = .ok (.iload_n 1, 1) := by decide +kernel
theorem d_X_shareOut_49 : decode b_X_shareOut 49 = .ok (.iload 9, 2) := by decide +kernel
theorem d_X_shareOut_51 : decode b_X_shareOut 51 = .ok (.i2l, 1) := by decide +kernel
theorem d_X_shareOut_52 : decode b_X_shareOut 52 = .ok (.lload 7, 2) := by decide +kernel
theorem d_X_shareOut_54 : decode b_X_shareOut 54 = .ok (.lcmp, 1) := by decide +kernel
theorem d_X_shareOut_55 : decode b_X_shareOut 55 = .ok (.ifCond .ge 10, 3) := by decide +kernel
theorem d_X_shareOut_58 : decode b_X_shareOut 58 = .ok (.lload 5, 2) := by decide +kernel
theorem d_X_shareOut_60 : decode b_X_shareOut 60 = .ok (.lconst 1, 1) := by decide +kernel
theorem d_X_shareOut_61 : decode b_X_shareOut 61 = .ok (.ladd, 1) := by decide +kernel
theorem d_X_shareOut_62 : decode b_X_shareOut 62 = .ok (.goto 5, 3) := by decide +kernel
theorem d_X_shareOut_65 : decode b_X_shareOut 65 = .ok (.lload 5, 2) := by decide +kernel
theorem d_X_shareOut_67 : decode b_X_shareOut 67 = .ok (.lastore, 1) := by decide +kernel
theorem d_X_shareOut_68 : decode b_X_shareOut 68 = .ok (.iinc 9 1, 3) := by decide +kernel
theorem d_X_shareOut_71 : decode b_X_shareOut 71 = .ok (.goto (-39), 3) := by decide +kernel
theorem d_X_shareOut_74 : decode b_X_shareOut 74 = .ok (.return_, 1) := by decide +kernel
theorem d_X_inAllLayers_0 : decode b_X_inAllLayers 0 = .ok (.lconst 0, 1) := by decide +kernel
theorem d_X_inAllLayers_1 : decode b_X_inAllLayers 1 = .ok (.lstore_n 2, 1) := by decide +kernel
theorem d_X_inAllLayers_2 : decode b_X_inAllLayers 2 = .ok (.aload_n 0, 1) := by decide +kernel
theorem d_X_inAllLayers_3 : decode b_X_inAllLayers 3 = .ok (.getfield 52, 3) := by decide +kernel
theorem d_X_inAllLayers_6 : decode b_X_inAllLayers 6 = .ok (.astore 4, 2) := by decide +kernel
theorem d_X_inAllLayers_8 : decode b_X_inAllLayers 8 = .ok (.aload 4, 2) := by decide +kernel
theorem d_X_inAllLayers_10 : decode b_X_inAllLayers 10 = .ok (.arraylength, 1) := by decide +kernel
theorem d_X_inAllLayers_11 : decode b_X_inAllLayers 11 = .ok (.istore 5, 2) := by decide +kernel
theorem d_X_inAllLayers_13 : decode b_X_inAllLayers 13 = .ok (.iconst 0, 1) := by decide +kernel
theorem d_X_inAllLayers_14 : decode b_X_inAllLayers 14 = .ok (.istore 6, 2) := by decide +kernel
theorem d_X_inAllLayers_16 : decode b_X_inAllLayers 16 = .ok (.iload 6, 2) := by decide +kernel
theorem d_X_inAllLayers_18 : decode b_X_inAllLayers 18 = .ok (.iload 5, 2) := by decide +kernel
theorem d_X_inAllLayers_20 : decode b_X_inAllLayers 20 = .ok (.if_icmp .ge 26, 3) := by decide +kernel
theorem d_X_inAllLayers_23 : decode b_X_inAllLayers 23 = .ok (.aload 4, 2) := by decide +kernel
theorem d_X_inAllLayers_25 : decode b_X_inAllLayers 25 = .ok (.iload 6, 2) := by decide +kernel
theorem d_X_inAllLayers_27 : decode b_X_inAllLayers 27 = .ok (.aaload, 1) := by decide +kernel
theorem d_X_inAllLayers_28 : decode b_X_inAllLayers 28 = .ok (.astore 7, 2) := by decide +kernel
theorem d_X_inAllLayers_30 : decode b_X_inAllLayers 30 = .ok (.lload_n 2, 1) := by decide +kernel
theorem d_X_inAllLayers_31 : decode b_X_inAllLayers 31 = .ok (.aload 7, 2) := by decide +kernel
theorem d_X_inAllLayers_33 : decode b_X_inAllLayers 33 = .ok (.getfield 107, 3) := by decide +kernel
theorem d_X_inAllLayers_36 : decode b_X_inAllLayers 36 = .ok (.iload_n 1, 1) := by decide +kernel
theorem d_X_inAllLayers_37 : decode b_X_inAllLayers 37 = .ok (.laload, 1) := by decide +kernel
theorem d_X_inAllLayers_38 : decode b_X_inAllLayers 38 = .ok (.ladd, 1) := by decide +kernel
theorem d_X_inAllLayers_39 : decode b_X_inAllLayers 39 = .ok (.lstore_n 2, 1) := by decide +kernel
theorem d_X_inAllLayers_40 : decode b_X_inAllLayers 40 = .ok (.iinc 6 1, 3) := by decide +kernel
theorem d_X_inAllLayers_43 : decode b_X_inAllLayers 43 = .ok (.goto (-27), 3) := by decide +kernel
theorem d_X_inAllLayers_46 : decode b_X_inAllLayers 46 = .ok (.lload_n 2, 1) := by decide +kernel
theorem d_X_inAllLayers_47 : decode b_X_inAllLayers 47 = .ok (.lreturn, 1) := by decide +kernel
theorem d_X_gone_0 : decode b_X_gone 0 = .ok (.iload_n 1, 1) := by decide +kernel
theorem d_X_gone_1 : decode b_X_gone 1 = .ok (.iconst 0, 1) := by decide +kernel
theorem d_X_gone_2 : decode b_X_gone 2 = .ok (.bipush 8, 2) := by decide +kernel
theorem d_X_gone_4 : decode b_X_gone 4 = .ok (.invokestatic 46, 3) := by decide +kernel
theorem d_X_gone_7 : decode b_X_gone 7 = .ok (.ifCond .eq 12, 3) := by decide +kernel
theorem d_X_gone_10 : decode b_X_gone 10 = .ok (.aload_n 0, 1) := by decide +kernel
theorem d_X_gone_11 : decode b_X_gone 11 = .ok (.getfield 22, 3) := by decide +kernel
theorem d_X_gone_14 : decode b_X_gone 14 = .ok (.iload_n 1, 1) := by decide +kernel
theorem d_X_gone_15 : decode b_X_gone 15 = .ok (.laload, 1) := by decide +kernel
theorem d_X_gone_16 : decode b_X_gone 16 = .ok (.goto 6, 3) := by decide +kernel
theorem d_X_gone_19 : decode b_X_gone 19 = .ok (.ldc2_w 105, 3) := by decide +kernel
theorem d_X_gone_22 : decode b_X_gone 22 = .ok (.lreturn, 1) := by decide +kernel
theorem d_X_balance_0 : decode b_X_balance 0 = .ok (.iload_n 1, 1) := by decide +kernel
theorem d_X_balance_1 : decode b_X_balance 1 = .ok (.tableswitch 115 0 2 #[27, 52, 87], 27) := by decide +kernel
theorem d_X_balance_28 : decode b_X_balance 28 = .ok (.aload_n 0, 1) := by decide +kernel
theorem d_X_balance_29 : decode b_X_balance 29 = .ok (.iconst 0, 1) := by decide +kernel
theorem d_X_balance_30 : decode b_X_balance 30 = .ok (.invokevirtual 120, 3) := by decide +kernel
theorem d_X_balance_33 : decode b_X_balance 33 = .ok (.aload_n 0, 1) := by decide +kernel
theorem d_X_balance_34 : decode b_X_balance 34 = .ok (.iconst 1, 1) := by decide +kernel
theorem d_X_balance_35 : decode b_X_balance 35 = .ok (.invokevirtual 120, 3) := by decide +kernel
theorem d_X_balance_38 : decode b_X_balance 38 = .ok (.ladd, 1) := by decide +kernel
theorem d_X_balance_39 : decode b_X_balance 39 = .ok (.aload_n 0, 1) := by decide +kernel
theorem d_X_balance_40 : decode b_X_balance 40 = .ok (.iconst 2, 1) := by decide +kernel
theorem d_X_balance_41 : decode b_X_balance 41 = .ok (.invokevirtual 120, 3) := by decide +kernel
theorem d_X_balance_44 : decode b_X_balance 44 = .ok (.ladd, 1) := by decide +kernel
theorem d_X_balance_45 : decode b_X_balance 45 = .ok (.aload_n 0, 1) := by decide +kernel
theorem d_X_balance_46 : decode b_X_balance 46 = .ok (.getfield 22, 3) := by decide +kernel
theorem d_X_balance_49 : decode b_X_balance 49 = .ok (.iconst 0, 1) := by decide +kernel
theorem d_X_balance_50 : decode b_X_balance 50 = .ok (.laload, 1) := by decide +kernel
theorem d_X_balance_51 : decode b_X_balance 51 = .ok (.lsub, 1) := by decide +kernel
theorem d_X_balance_52 : decode b_X_balance 52 = .ok (.lreturn, 1) := by decide +kernel
theorem d_X_balance_53 : decode b_X_balance 53 = .ok (.aload_n 0, 1) := by decide +kernel
theorem d_X_balance_54 : decode b_X_balance 54 = .ok (.iconst 3, 1) := by decide +kernel
theorem d_X_balance_55 : decode b_X_balance 55 = .ok (.invokevirtual 120, 3) := by decide +kernel
theorem d_X_balance_58 : decode b_X_balance 58 = .ok (.aload_n 0, 1) := by decide +kernel
theorem d_X_balance_59 : decode b_X_balance 59 = .ok (.getfield 22, 3) := by decide +kernel
theorem d_X_balance_62 : decode b_X_balance 62 = .ok (.iconst 3, 1) := by decide +kernel
theorem d_X_balance_63 : decode b_X_balance 63 = .ok (.laload, 1) := by decide +kernel
theorem d_X_balance_64 : decode b_X_balance 64 = .ok (.ladd, 1) := by decide +kernel
theorem d_X_balance_65 : decode b_X_balance 65 = .ok (.aload_n 0, 1) := by decide +kernel
theorem d_X_balance_66 : decode b_X_balance 66 = .ok (.getfield 22, 3) := by decide +kernel
theorem d_X_balance_69 : decode b_X_balance 69 = .ok (.bipush 7, 2) := by decide +kernel
theorem d_X_balance_71 : decode b_X_balance 71 = .ok (.laload, 1) := by decide +kernel
theorem d_X_balance_72 : decode b_X_balance 72 = .ok (.ladd, 1) := by decide +kernel
theorem d_X_balance_73 : decode b_X_balance 73 = .ok (.aload_n 0, 1) := by decide +kernel
theorem d_X_balance_74 : decode b_X_balance 74 = .ok (.getfield 22, 3) := by decide +kernel
theorem d_X_balance_77 : decode b_X_balance 77 = .ok (.iconst 1, 1) := by decide +kernel
theorem d_X_balance_78 : decode b_X_balance 78 = .ok (.laload, 1) := by decide +kernel
theorem d_X_balance_79 : decode b_X_balance 79 = .ok (.lsub, 1) := by decide +kernel
theorem d_X_balance_80 : decode b_X_balance 80 = .ok (.aload_n 0, 1) := by decide +kernel
theorem d_X_balance_81 : decode b_X_balance 81 = .ok (.getfield 22, 3) := by decide +kernel
theorem d_X_balance_84 : decode b_X_balance 84 = .ok (.iconst 2, 1) := by decide +kernel
theorem d_X_balance_85 : decode b_X_balance 85 = .ok (.laload, 1) := by decide +kernel
theorem d_X_balance_86 : decode b_X_balance 86 = .ok (.lsub, 1) := by decide +kernel
theorem d_X_balance_87 : decode b_X_balance 87 = .ok (.lreturn, 1) := by decide +kernel
theorem d_X_balance_88 : decode b_X_balance 88 = .ok (.aload_n 0, 1) := by decide +kernel
theorem d_X_balance_89 : decode b_X_balance 89 = .ok (.iconst 4, 1) := by decide +kernel
theorem d_X_balance_90 : decode b_X_balance 90 = .ok (.invokevirtual 120, 3) := by decide +kernel
theorem d_X_balance_93 : decode b_X_balance 93 = .ok (.aload_n 0, 1) := by decide +kernel
theorem d_X_balance_94 : decode b_X_balance 94 = .ok (.getfield 22, 3) := by decide +kernel
theorem d_X_balance_97 : decode b_X_balance 97 = .ok (.iconst 4, 1) := by decide +kernel
theorem d_X_balance_98 : decode b_X_balance 98 = .ok (.laload, 1) := by decide +kernel
theorem d_X_balance_99 : decode b_X_balance 99 = .ok (.ladd, 1) := by decide +kernel
theorem d_X_balance_100 : decode b_X_balance 100 = .ok (.aload_n 0, 1) := by decide +kernel
theorem d_X_balance_101 : decode b_X_balance 101 = .ok (.getfield 22, 3) := by decide +kernel
theorem d_X_balance_104 : decode b_X_balance 104 = .ok (.iconst 5, 1) := by decide +kernel
theorem d_X_balance_105 : decode b_X_balance 105 = .ok (.laload, 1) := by decide +kernel
theorem d_X_balance_106 : decode b_X_balance 106 = .ok (.lsub, 1) := by decide +kernel
theorem d_X_balance_107 : decode b_X_balance 107 = .ok (.aload_n 0, 1) := by decide +kernel
theorem d_X_balance_108 : decode b_X_balance 108 = .ok (.getfield 22, 3) := by decide +kernel
theorem d_X_balance_111 : decode b_X_balance 111 = .ok (.bipush 6, 2) := by decide +kernel
theorem d_X_balance_113 : decode b_X_balance 113 = .ok (.laload, 1) := by decide +kernel
theorem d_X_balance_114 : decode b_X_balance 114 = .ok (.lsub, 1) := by decide +kernel
theorem d_X_balance_115 : decode b_X_balance 115 = .ok (.lreturn, 1) := by decide +kernel
theorem d_X_balance_116 : decode b_X_balance 116 = .ok (.ldc2_w 105, 3) := by decide +kernel
theorem d_X_balance_119 : decode b_X_balance 119 = .ok (.lreturn, 1) := by decide +kernel
theorem d_X_putInLessThere_0 : decode b_X_putInLessThere 0 = .ok (.aload_n 0, 1) := by decide +kernel
theorem d_X_putInLessThere_1 : decode b_X_putInLessThere 1 = .ok (.getfield 26, 3) := by decide +kernel
theorem d_X_putInLessThere_4 : decode b_X_putInLessThere 4 = .ok (.iload_n 1, 1) := by decide +kernel
theorem d_X_putInLessThere_5 : decode b_X_putInLessThere 5 = .ok (.laload, 1) := by decide +kernel
theorem d_X_putInLessThere_6 : decode b_X_putInLessThere 6 = .ok (.aload_n 0, 1) := by decide +kernel
theorem d_X_putInLessThere_7 : decode b_X_putInLessThere 7 = .ok (.getfield 29, 3) := by decide +kernel
theorem d_X_putInLessThere_10 : decode b_X_putInLessThere 10 = .ok (.iload_n 1, 1) := by decide +kernel
theorem d_X_putInLessThere_11 : decode b_X_putInLessThere 11 = .ok (.laload, 1) := by decide +kernel
theorem d_X_putInLessThere_12 : decode b_X_putInLessThere 12 = .ok (.lsub, 1) := by decide +kernel
theorem d_X_putInLessThere_13 : decode b_X_putInLessThere 13 = .ok (.aload_n 0, 1) := by decide +kernel
theorem d_X_putInLessThere_14 : decode b_X_putInLessThere 14 = .ok (.iload_n 1, 1) := by decide +kernel
theorem d_X_putInLessThere_15 : decode b_X_putInLessThere 15 = .ok (.invokevirtual 174, 3) := by decide +kernel
theorem d_X_putInLessThere_18 : decode b_X_putInLessThere 18 = .ok (.lsub, 1) := by decide +kernel
theorem d_X_putInLessThere_19 : decode b_X_putInLessThere 19 = .ok (.lreturn, 1) := by decide +kernel
theorem d_X_batch_0 : decode b_X_batch 0 = .ok (.lconst 0, 1) := by decide +kernel
theorem d_X_batch_1 : decode b_X_batch 1 = .ok (.lstore_n 1, 1) := by decide +kernel
theorem d_X_batch_2 : decode b_X_batch 2 = .ok (.aload_n 0, 1) := by decide +kernel
theorem d_X_batch_3 : decode b_X_batch 3 = .ok (.getfield 52, 3) := by decide +kernel
theorem d_X_batch_6 : decode b_X_batch 6 = .ok (.astore_n 3, 1) := by decide +kernel
theorem d_X_batch_7 : decode b_X_batch 7 = .ok (.aload_n 3, 1) := by decide +kernel
theorem d_X_batch_8 : decode b_X_batch 8 = .ok (.arraylength, 1) := by decide +kernel
theorem d_X_batch_9 : decode b_X_batch 9 = .ok (.istore 4, 2) := by decide +kernel
theorem d_X_batch_11 : decode b_X_batch 11 = .ok (.iconst 0, 1) := by decide +kernel
theorem d_X_batch_12 : decode b_X_batch 12 = .ok (.istore 5, 2) := by decide +kernel
theorem d_X_batch_14 : decode b_X_batch 14 = .ok (.iload 5, 2) := by decide +kernel
theorem d_X_batch_16 : decode b_X_batch 16 = .ok (.iload 4, 2) := by decide +kernel
theorem d_X_batch_18 : decode b_X_batch 18 = .ok (.if_icmp .ge 65, 3) := by decide +kernel
theorem d_X_batch_21 : decode b_X_batch 21 = .ok (.aload_n 3, 1) := by decide +kernel
theorem d_X_batch_22 : decode b_X_batch 22 = .ok (.iload 5, 2) := by decide +kernel
theorem d_X_batch_24 : decode b_X_batch 24 = .ok (.aaload, 1) := by decide +kernel
theorem d_X_batch_25 : decode b_X_batch 25 = .ok (.astore 6, 2) := by decide +kernel
theorem d_X_batch_27 : decode b_X_batch 27 = .ok (.lload_n 1, 1) := by decide +kernel
theorem d_X_batch_28 : decode b_X_batch 28 = .ok (.aload 6, 2) := by decide +kernel
theorem d_X_batch_30 : decode b_X_batch 30 = .ok (.invokevirtual 124, 3) := by decide +kernel
theorem d_X_batch_33 : decode b_X_batch 33 = .ok (.ladd, 1) := by decide +kernel
theorem d_X_batch_34 : decode b_X_batch 34 = .ok (.lstore_n 1, 1) := by decide +kernel
theorem d_X_batch_35 : decode b_X_batch 35 = .ok (.iconst 0, 1) := by decide +kernel
theorem d_X_batch_36 : decode b_X_batch 36 = .ok (.istore 7, 2) := by decide +kernel
theorem d_X_batch_38 : decode b_X_batch 38 = .ok (.iload 7, 2) := by decide +kernel
theorem d_X_batch_40 : decode b_X_batch 40 = .ok (.iconst 5, 1) := by decide +kernel
theorem d_X_batch_41 : decode b_X_batch 41 = .ok (.if_icmp .ge 36, 3) := by decide +kernel
theorem d_X_batch_44 : decode b_X_batch 44 = .ok (.aload_n 0, 1) := by decide +kernel
theorem d_X_batch_45 : decode b_X_batch 45 = .ok (.getfield 29, 3) := by decide +kernel
theorem d_X_batch_48 : decode b_X_batch 48 = .ok (.iload 7, 2) := by decide +kernel
theorem d_X_batch_50 : decode b_X_batch 50 = .ok (.dup2, 1) := by decide +kernel
theorem d_X_batch_51 : decode b_X_batch 51 = .ok (.laload, 1) := by decide +kernel
theorem d_X_batch_52 : decode b_X_batch 52 = .ok (.aload 6, 2) := by decide +kernel
theorem d_X_batch_54 : decode b_X_batch 54 = .ok (.getfield 107, 3) := by decide +kernel
theorem d_X_batch_57 : decode b_X_batch 57 = .ok (.iload 7, 2) := by decide +kernel
theorem d_X_batch_59 : decode b_X_batch 59 = .ok (.laload, 1) := by decide +kernel
theorem d_X_batch_60 : decode b_X_batch 60 = .ok (.ladd, 1) := by decide +kernel
theorem d_X_batch_61 : decode b_X_batch 61 = .ok (.lastore, 1) := by decide +kernel
theorem d_X_batch_62 : decode b_X_batch 62 = .ok (.aload 6, 2) := by decide +kernel
theorem d_X_batch_64 : decode b_X_batch 64 = .ok (.getfield 107, 3) := by decide +kernel
theorem d_X_batch_67 : decode b_X_batch 67 = .ok (.iload 7, 2) := by decide +kernel
theorem d_X_batch_69 : decode b_X_batch 69 = .ok (.lconst 0, 1) := by decide +kernel
theorem d_X_batch_70 : decode b_X_batch 70 = .ok (.lastore, 1) := by decide +kernel
theorem d_X_batch_71 : decode b_X_batch 71 = .ok (.iinc 7 1, 3) := by decide +kernel
theorem d_X_batch_74 : decode b_X_batch 74 = .ok (.goto (-36), 3) := by decide +kernel
theorem d_X_batch_77 : decode b_X_batch 77 = .ok (.iinc 5 1, 3) := by decide +kernel
theorem d_X_batch_80 : decode b_X_batch 80 = .ok (.goto (-66), 3) := by decide +kernel
theorem d_X_batch_83 : decode b_X_batch 83 = .ok (.lload_n 1, 1) := by decide +kernel
theorem d_X_batch_84 : decode b_X_batch 84 = .ok (.lreturn, 1) := by decide +kernel
end
section
theorem d_M_init_0 : decode b_M_init 0 = .ok (.aload_n 0, 1) := by decide +kernel
theorem d_M_init_1 : decode b_M_init 1 = .ok (.invokespecial 1, 3) := by decide +kernel
theorem d_M_init_4 : decode b_M_init 4 = .ok (.aload_n 0, 1) := by decide +kernel
theorem d_M_init_5 : decode b_M_init 5 = .ok (.bipush 18, 2) := by decide +kernel
theorem d_M_init_7 : decode b_M_init 7 = .ok (.newarray .long, 2) := by decide +kernel
theorem d_M_init_9 : decode b_M_init 9 = .ok (.putfield 7, 3) := by decide +kernel
theorem d_M_init_12 : decode b_M_init 12 = .ok (.aload_n 0, 1) := by decide +kernel
theorem d_M_init_13 : decode b_M_init 13 = .ok (.bipush 6, 2) := by decide +kernel
theorem d_M_init_15 : decode b_M_init 15 = .ok (.newarray .long, 2) := by decide +kernel
theorem d_M_init_17 : decode b_M_init 17 = .ok (.putfield 13, 3) := by decide +kernel
theorem d_M_init_20 : decode b_M_init 20 = .ok (.aload_n 0, 1) := by decide +kernel
theorem d_M_init_21 : decode b_M_init 21 = .ok (.bipush 6, 2) := by decide +kernel
theorem d_M_init_23 : decode b_M_init 23 = .ok (.newarray .long, 2) := by decide +kernel
theorem d_M_init_25 : decode b_M_init 25 = .ok (.putfield 16, 3) := by decide +kernel
theorem d_M_init_28 : decode b_M_init 28 = .ok (.aload_n 0, 1) := by decide +kernel
theorem d_M_init_29 : decode b_M_init 29 = .ok (.bipush 6, 2) := by decide +kernel
theorem d_M_init_31 : decode b_M_init 31 = .ok (.newarray .long, 2) := by decide +kernel
theorem d_M_init_33 : decode b_M_init 33 = .ok (.putfield 19, 3) := by decide +kernel
theorem d_M_init_36 : decode b_M_init 36 = .ok (.aload_n 0, 1) := by decide +kernel
theorem d_M_init_37 : decode b_M_init 37 = .ok (.bipush 6, 2) := by decide +kernel
theorem d_M_init_39 : decode b_M_init 39 = .ok (.newarray .long, 2) := by decide +kernel
theorem d_M_init_41 : decode b_M_init 41 = .ok (.putfield 22, 3) := by decide +kernel
theorem d_M_init_44 : decode b_M_init 44 = .ok (.aload_n 0, 1) := by decide +kernel
theorem d_M_init_45 : decode b_M_init 45 = .ok (.iconst 3, 1) := by decide +kernel
theorem d_M_init_46 : decode b_M_init 46 = .ok (.newarray .int, 2) := by decide +kernel
theorem d_M_init_48 : decode b_M_init 48 = .ok (.putfield 25, 3) := by decide +kernel
theorem d_M_init_51 : decode b_M_init 51 = .ok (.aload_n 0, 1) := by decide +kernel
theorem d_M_init_52 : decode b_M_init 52 = .ok (.bipush 12, 2) := by decide +kernel
theorem d_M_init_54 : decode b_M_init 54 = .ok (.newarray .int, 2) := by decide +kernel
theorem d_M_init_56 : decode b_M_init 56 = .ok (.putfield 29, 3) := by decide +kernel
theorem d_M_init_59 : decode b_M_init 59 = .ok (.aload_n 0, 1) := by decide +kernel
theorem d_M_init_60 : decode b_M_init 60 = .ok (.bipush 12, 2) := by decide +kernel
theorem d_M_init_62 : decode b_M_init 62 = .ok (.newarray .int, 2) := by decide +kernel
theorem d_M_init_64 : decode b_M_init 64 = .ok (.putfield 32, 3) := by decide +kernel
theorem d_M_init_67 : decode b_M_init 67 = .ok (.aload_n 0, 1) := by decide +kernel
theorem d_M_init_68 : decode b_M_init 68 = .ok (.iconst 3, 1) := by decide +kernel
theorem d_M_init_69 : decode b_M_init 69 = .ok (.newarray .int, 2) := by decide +kernel
theorem d_M_init_71 : decode b_M_init 71 = .ok (.putfield 35, 3) := by decide +kernel
theorem d_M_init_74 : decode b_M_init 74 = .ok (.aload_n 0, 1) := by decide +kernel
theorem d_M_init_75 : decode b_M_init 75 = .ok (.iconst 3, 1) := by decide +kernel
theorem d_M_init_76 : decode b_M_init 76 = .ok (.newarray .int, 2) := by decide +kernel
theorem d_M_init_78 : decode b_M_init 78 = .ok (.putfield 38, 3) := by decide +kernel
theorem d_M_init_81 : decode b_M_init 81 = .ok (.aload_n 0, 1) := by decide +kernel
theorem d_M_init_82 : decode b_M_init 82 = .ok (.ldc2_w 41, 3) := by decide +kernel
theorem d_M_init_85 : decode b_M_init 85 = .ok (.putfield 43, 3) := by decide +kernel
theorem d_M_init_88 : decode b_M_init 88 = .ok (.aload_n 0, 1) := by decide +kernel
theorem d_M_init_89 : decode b_M_init 89 = .ok (.bipush 9, 2) := by decide +kernel
theorem d_M_init_91 : decode b_M_init 91 = .ok (.newarray .long, 2) := by decide +kernel
theorem d_M_init_93 : decode b_M_init 93 = .ok (.putfield 47, 3) := by decide +kernel
theorem d_M_init_96 : decode b_M_init 96 = .ok (.aload_n 0, 1) := by decide +kernel
theorem d_M_init_97 : decode b_M_init 97 = .ok (.iconst 3, 1) := by decide +kernel
theorem d_M_init_98 : decode b_M_init 98 = .ok (.newarray .long, 2) := by decide +kernel
theorem d_M_init_100 : decode b_M_init 100 = .ok (.putfield 50, 3) := by decide +kernel
theorem d_M_init_103 : decode b_M_init 103 = .ok (.aload_n 0, 1) := by decide +kernel
theorem d_M_init_104 : decode b_M_init 104 = .ok (.iconst 3, 1) := by decide +kernel
theorem d_M_init_105 : decode b_M_init 105 = .ok (.newarray .long, 2) := by decide +kernel
theorem d_M_init_107 : decode b_M_init 107 = .ok (.putfield 53, 3) := by decide +kernel
theorem d_M_init_110 : decode b_M_init 110 = .ok (.aload_n 0, 1) := by decide +kernel
theorem d_M_init_111 : decode b_M_init 111 = .ok (.iload_n 1, 1) := by decide +kernel
theorem d_M_init_112 : decode b_M_init 112 = .ok (.iconst 1, 1) := by decide +kernel
theorem d_M_init_113 : decode b_M_init 113 = .ok (.if_icmp .lt 13, 3) := by decide +kernel
theorem d_M_init_116 : decode b_M_init 116 = .ok (.iload_n 1, 1) := by decide +kernel
theorem d_M_init_117 : decode b_M_init 117 = .ok (.bipush 6, 2) := by decide +kernel
theorem d_M_init_119 : decode b_M_init 119 = .ok (.if_icmp .gt 7, 3) := by decide +kernel
theorem d_M_init_122 : decode b_M_init 122 = .ok (.iload_n 1, 1) := by decide +kernel
theorem d_M_init_123 : decode b_M_init 123 = .ok (.goto 4, 3) := by decide +kernel
theorem d_M_init_126 : decode b_M_init 126 = .ok (.iconst 1, 1) := by decide +kernel
theorem d_M_init_127 : decode b_M_init 127 = .ok (.putfield 56, 3) := by decide +kernel
theorem d_M_init_130 : decode b_M_init 130 = .ok (.iconst 0, 1) := by decide +kernel
theorem d_M_init_131 : decode b_M_init 131 = .ok (.istore_n 2, 1) := by decide +kernel
theorem d_M_init_132 : decode b_M_init 132 = .ok (.iload_n 2, 1) := by decide +kernel
theorem d_M_init_133 : decode b_M_init 133 = .ok (.bipush 6, 2) := by decide +kernel
theorem d_M_init_135 : decode b_M_init 135 = .ok (.if_icmp .ge 18, 3) := by decide +kernel
theorem d_M_init_138 : decode b_M_init 138 = .ok (.aload_n 0, 1) := by decide +kernel
theorem d_M_init_139 : decode b_M_init 139 = .ok (.getfield 22, 3) := by decide +kernel
theorem d_M_init_142 : decode b_M_init 142 = .ok (.iload_n 2, 1) := by decide +kernel
theorem d_M_init_143 : decode b_M_init 143 = .ok (.ldc2_w 41, 3) := by decide +kernel
theorem d_M_init_146 : decode b_M_init 146 = .ok (.lastore, 1) := by decide +kernel
theorem d_M_init_147 : decode b_M_init 147 = .ok (.iinc 2 1, 3) := by decide +kernel
theorem d_M_init_150 : decode b_M_init 150 = .ok (.goto (-18), 3) := by decide +kernel
theorem d_M_init_153 : decode b_M_init 153 = .ok (.return_, 1) := by decide +kernel
theorem d_M_part_0 : decode b_M_part 0 = .ok (.aload_n 0, 1) := by decide +kernel
theorem d_M_part_1 : decode b_M_part 1 = .ok (.iload_n 1, 1) := by decide +kernel
theorem d_M_part_2 : decode b_M_part 2 = .ok (.invokevirtual 60, 3) := by decide +kernel
theorem d_M_part_5 : decode b_M_part 5 = .ok (.ifCond .eq 42, 3) := by decide +kernel
theorem d_M_part_8 : decode b_M_part 8 = .ok (.iload_n 2, 1) := by decide +kernel
theorem d_M_part_9 : decode b_M_part 9 = .ok (.invokestatic 64, 3) := by decide +kernel
theorem d_M_part_12 : decode b_M_part 12 = .ok (.ifCond .eq 35, 3) := by decide +kernel
theorem d_M_part_15 : decode b_M_part 15 = .ok (.iload_n 3, 1) := by decide +kernel
theorem d_M_part_16 : decode b_M_part 16 = .ok (.i2l, 1) := by decide +kernel
theorem d_M_part_17 : decode b_M_part 17 = .ok (.lconst 0, 1) := by decide +kernel
theorem d_M_part_18 : decode b_M_part 18 = .ok (.ldc2_w 67, 3) := by decide +kernel
theorem d_M_part_21 : decode b_M_part 21 = .ok (.invokestatic 69, 3) := by decide +kernel
theorem d_M_part_24 : decode b_M_part 24 = .ok (.ifCond .eq 23, 3) := by decide +kernel
theorem d_M_part_27 : decode b_M_part 27 = .ok (.aload_n 0, 1) := by decide +kernel
theorem d_M_part_28 : decode b_M_part 28 = .ok (.getfield 7, 3) := by decide +kernel
theorem d_M_part_31 : decode b_M_part 31 = .ok (.iconst 3, 1) := by decide +kernel
theorem d_M_part_32 : decode b_M_part 32 = .ok (.iload_n 1, 1) := by decide +kernel
theorem d_M_part_33 : decode b_M_part 33 = .ok (.imul, 1) := by decide +kernel
theorem d_M_part_34 : decode b_M_part 34 = .ok (.iload_n 2, 1) := by decide +kernel
theorem d_M_part_35 : decode b_M_part 35 = .ok (.iadd, 1) := by decide +kernel
theorem d_M_part_36 : decode b_M_part 36 = .ok (.laload, 1) := by decide +kernel
theorem d_M_part_37 : decode b_M_part 37 = .ok (.iload_n 3, 1) := by decide +kernel
theorem d_M_part_38 : decode b_M_part 38 = .ok (.i2l, 1) := by decide +kernel
theorem d_M_part_39 : decode b_M_part 39 = .ok (.ladd, 1) := by decide +kernel
theorem d_M_part_40 : decode b_M_part 40 = .ok (.ldc2_w 41, 3) := by decide +kernel
theorem d_M_part_43 : decode b_M_part 43 = .ok (.lcmp, 1) := by decide +kernel
theorem d_M_part_44 : decode b_M_part 44 = .ok (.ifCond .le 5, 3) := by decide +kernel
theorem d_M_part_47 : decode b_M_part 47 = .ok (.iconst 0, 1) := by decide +kernel
theorem d_M_part_48 : decode b_M_part 48 = .ok (.ireturn, 1) := by decide +kernel
theorem d_M_part_49 : decode b_M_part 49 = .ok (.aload_n 0, 1) := by decide +kernel
theorem d_M_part_50 : decode b_M_part 50 = .ok (.getfield 7, 3) := by decide +kernel
theorem d_M_part_53 : decode b_M_part 53 = .ok (.iconst 3, 1) := by decide +kernel
theorem d_M_part_54 : decode b_M_part 54 = .ok (.iload_n 1, 1) := by decide +kernel
theorem d_M_part_55 : decode b_M_part 55 = .ok (.imul, 1) := by decide +kernel
theorem d_M_part_56 : decode b_M_part 56 = .ok (.iload_n 2, 1) := by decide +kernel
theorem d_M_part_57 : decode b_M_part 57 = .ok (.iadd, 1) := by decide +kernel
theorem d_M_part_58 : decode b_M_part 58 = .ok (.dup2, 1) := by decide +kernel
theorem d_M_part_59 : decode b_M_part 59 = .ok (.laload, 1) := by decide +kernel
theorem d_M_part_60 : decode b_M_part 60 = .ok (.iload_n 3, 1) := by decide +kernel
theorem d_M_part_61 : decode b_M_part 61 = .ok (.i2l, 1) := by decide +kernel
theorem d_M_part_62 : decode b_M_part 62 = .ok (.ladd, 1) := by decide +kernel
theorem d_M_part_63 : decode b_M_part 63 = .ok (.lastore, 1) := by decide +kernel
theorem d_M_part_64 : decode b_M_part 64 = .ok (.aload_n 0, 1) := by decide +kernel
theorem d_M_part_65 : decode b_M_part 65 = .ok (.getfield 50, 3) := by decide +kernel
theorem d_M_part_68 : decode b_M_part 68 = .ok (.iconst 0, 1) := by decide +kernel
theorem d_M_part_69 : decode b_M_part 69 = .ok (.dup2, 1) := by decide +kernel
theorem d_M_part_70 : decode b_M_part 70 = .ok (.laload, 1) := by decide +kernel
theorem d_M_part_71 : decode b_M_part 71 = .ok (.iload_n 3, 1) := by decide +kernel
theorem d_M_part_72 : decode b_M_part 72 = .ok (.i2l, 1) := by decide +kernel
theorem d_M_part_73 : decode b_M_part 73 = .ok (.ladd, 1) := by decide +kernel
theorem d_M_part_74 : decode b_M_part 74 = .ok (.lastore, 1) := by decide +kernel
theorem d_M_part_75 : decode b_M_part 75 = .ok (.iconst 1, 1) := by decide +kernel
theorem d_M_part_76 : decode b_M_part 76 = .ok (.ireturn, 1) := by decide +kernel
theorem d_M_isLayer_0 : decode b_M_isLayer 0 = .ok (.iload_n 1, 1) := by decide +kernel
theorem d_M_isLayer_1 : decode b_M_isLayer 1 = .ok (.ifCond .lt 15, 3) := by decide +kernel
theorem d_M_isLayer_4 : decode b_M_isLayer 4 = .ok (.iload_n 1, 1) := by decide +kernel
theorem d_M_isLayer_5 : decode b_M_isLayer 5 = .ok (.aload_n 0, 1) := by decide +kernel
theorem d_M_isLayer_6 : decode b_M_isLayer 6 = .ok (.getfield 56, 3) := by decide +kernel
theorem d_M_isLayer_9 : decode b_M_isLayer 9 = .ok (.if_icmp .ge 7, 3) := by decide +kernel
theorem d_M_isLayer_12 : decode b_M_isLayer 12 = .ok (.iconst 1, 1) := by decide +kernel
theorem d_M_isLayer_13 : decode b_M_isLayer 13 = .ok (.goto 4, 3) := by decide +kernel
theorem d_M_isLayer_16 : decode b_M_isLayer 16 = .ok (.iconst 0, 1) := by decide +kernel
theorem d_M_isLayer_17 : decode b_M_isLayer 17 = .ok (.ireturn, 1) := by decide +kernel
theorem d_M_isPart_0 : decode b_M_isPart 0 = .ok (.iload_n 0, 1) := by decide +kernel
theorem d_M_isPart_1 : decode b_M_isPart 1 = .ok (.ifCond .lt 12, 3) := by decide +kernel
theorem d_M_isPart_4 : decode b_M_isPart 4 = .ok (.iload_n 0, 1) := by decide +kernel
theorem d_M_isPart_5 : decode b_M_isPart 5 = .ok (.iconst 3, 1) := by decide +kernel
theorem d_M_isPart_6 : decode b_M_isPart 6 = .ok (.if_icmp .ge 7, 3) := by decide +kernel
theorem d_M_isPart_9 : decode b_M_isPart 9 = .ok (.iconst 1, 1) := by decide +kernel
theorem d_M_isPart_10 : decode b_M_isPart 10 = .ok (.goto 4, 3) := by decide +kernel
theorem d_M_isPart_13 : decode b_M_isPart 13 = .ok (.iconst 0, 1) := by decide +kernel
theorem d_M_isPart_14 : decode b_M_isPart 14 = .ok (.ireturn, 1) := by decide +kernel
theorem d_M_isIn_0 : decode b_M_isIn 0 = .ok (.lload_n 0, 1) := by decide +kernel
theorem d_M_isIn_1 : decode b_M_isIn 1 = .ok (.lload_n 2, 1) := by decide +kernel
theorem d_M_isIn_2 : decode b_M_isIn 2 = .ok (.lcmp, 1) := by decide +kernel
theorem d_M_isIn_3 : decode b_M_isIn 3 = .ok (.ifCond .lt 14, 3) := by decide +kernel
theorem d_M_isIn_6 : decode b_M_isIn 6 = .ok (.lload_n 0, 1) := by decide +kernel
theorem d_M_isIn_7 : decode b_M_isIn 7 = .ok (.lload 4, 2) := by decide +kernel
theorem d_M_isIn_9 : decode b_M_isIn 9 = .ok (.lcmp, 1) := by decide +kernel
theorem d_M_isIn_10 : decode b_M_isIn 10 = .ok (.ifCond .gt 7, 3) := by decide +kernel
theorem d_M_isIn_13 : decode b_M_isIn 13 = .ok (.iconst 1, 1) := by decide +kernel
theorem d_M_isIn_14 : decode b_M_isIn 14 = .ok (.goto 4, 3) := by decide +kernel
theorem d_M_isIn_17 : decode b_M_isIn 17 = .ok (.iconst 0, 1) := by decide +kernel
theorem d_M_isIn_18 : decode b_M_isIn 18 = .ok (.ireturn, 1) := by decide +kernel
theorem d_M_water_0 : decode b_M_water 0 = .ok (.aload_n 0, 1) := by decide +kernel
theorem d_M_water_1 : decode b_M_water 1 = .ok (.iload_n 1, 1) := by decide +kernel
theorem d_M_water_2 : decode b_M_water 2 = .ok (.invokevirtual 60, 3) := by decide +kernel
theorem d_M_water_5 : decode b_M_water 5 = .ok (.ifCond .eq 31, 3) := by decide +kernel
theorem d_M_water_8 : decode b_M_water 8 = .ok (.iload_n 2, 1) := by decide +kernel
theorem d_M_water_9 : decode b_M_water 9 = .ok (.i2l, 1) := by decide +kernel
theorem d_M_water_10 : decode b_M_water 10 = .ok (.lconst 0, 1) := by decide +kernel
theorem d_M_water_11 : decode b_M_water 11 = .ok (.ldc2_w 67, 3) := by decide +kernel
theorem d_M_water_14 : decode b_M_water 14 = .ok (.invokestatic 69, 3) := by decide +kernel
theorem d_M_water_17 : decode b_M_water 17 = .ok (.ifCond .eq 19, 3) := by decide +kernel
theorem d_M_water_20 : decode b_M_water 20 = .ok (.aload_n 0, 1) := by decide +kernel
theorem d_M_water_21 : decode b_M_water 21 = .ok (.getfield 13, 3) := by decide +kernel
theorem d_M_water_24 : decode b_M_water 24 = .ok (.iload_n 1, 1) := by decide +kernel
theorem d_M_water_25 : decode b_M_water 25 = .ok (.laload, 1) := by decide +kernel
theorem d_M_water_26 : decode b_M_water 26 = .ok (.iload_n 2, 1) := by decide +kernel
theorem d_M_water_27 : decode b_M_water 27 = .ok (.i2l, 1) := by decide +kernel
theorem d_M_water_28 : decode b_M_water 28 = .ok (.ladd, 1) := by decide +kernel
theorem d_M_water_29 : decode b_M_water 29 = .ok (.ldc2_w 41, 3) := by decide +kernel
theorem d_M_water_32 : decode b_M_water 32 = .ok (.lcmp, 1) := by decide +kernel
theorem d_M_water_33 : decode b_M_water 33 = .ok (.ifCond .le 5, 3) := by decide +kernel
theorem d_M_water_36 : decode b_M_water 36 = .ok (.iconst 0, 1) := by decide +kernel
theorem d_M_water_37 : decode b_M_water 37 = .ok (.ireturn, 1) := by decide +kernel
theorem d_M_water_38 : decode b_M_water 38 = .ok (.aload_n 0, 1) := by decide +kernel
theorem d_M_water_39 : decode b_M_water 39 = .ok (.getfield 13, 3) := by decide +kernel
theorem d_M_water_42 : decode b_M_water 42 = .ok (.iload_n 1, 1) := by decide +kernel
theorem d_M_water_43 : decode b_M_water 43 = .ok (.dup2, 1) := by decide +kernel
theorem d_M_water_44 : decode b_M_water 44 = .ok (.laload, 1) := by decide +kernel
theorem d_M_water_45 : decode b_M_water 45 = .ok (.iload_n 2, 1) := by decide +kernel
theorem d_M_water_46 : decode b_M_water 46 = .ok (.i2l, 1) := by decide +kernel
theorem d_M_water_47 : decode b_M_water 47 = .ok (.ladd, 1) := by decide +kernel
theorem d_M_water_48 : decode b_M_water 48 = .ok (.lastore, 1) := by decide +kernel
theorem d_M_water_49 : decode b_M_water 49 = .ok (.aload_n 0, 1) := by decide +kernel
theorem d_M_water_50 : decode b_M_water 50 = .ok (.getfield 50, 3) := by decide +kernel
theorem d_M_water_53 : decode b_M_water 53 = .ok (.iconst 1, 1) := by decide +kernel
theorem d_M_water_54 : decode b_M_water 54 = .ok (.dup2, 1) := by decide +kernel
theorem d_M_water_55 : decode b_M_water 55 = .ok (.laload, 1) := by decide +kernel
theorem d_M_water_56 : decode b_M_water 56 = .ok (.iload_n 2, 1) := by decide +kernel
theorem d_M_water_57 : decode b_M_water 57 = .ok (.i2l, 1) := by decide +kernel
theorem d_M_water_58 : decode b_M_water 58 = .ok (.ladd, 1) := by decide +kernel
theorem d_M_water_59 : decode b_M_water 59 = .ok (.lastore, 1) := by decide +kernel
theorem d_M_water_60 : decode b_M_water 60 = .ok (.iconst 1, 1) := by decide +kernel
theorem d_M_water_61 : decode b_M_water 61 = .ok (.ireturn, 1) := by decide +kernel
theorem d_M_heat_0 : decode b_M_heat 0 = .ok (.aload_n 0, 1) := by decide +kernel
theorem d_M_heat_1 : decode b_M_heat 1 = .ok (.iload_n 1, 1) := by decide +kernel
theorem d_M_heat_2 : decode b_M_heat 2 = .ok (.invokevirtual 60, 3) := by decide +kernel
theorem d_M_heat_5 : decode b_M_heat 5 = .ok (.ifCond .eq 31, 3) := by decide +kernel
theorem d_M_heat_8 : decode b_M_heat 8 = .ok (.iload_n 2, 1) := by decide +kernel
theorem d_M_heat_9 : decode b_M_heat 9 = .ok (.i2l, 1) := by decide +kernel
theorem d_M_heat_10 : decode b_M_heat 10 = .ok (.lconst 0, 1) := by decide +kernel
theorem d_M_heat_11 : decode b_M_heat 11 = .ok (.ldc2_w 41, 3) := by decide +kernel
theorem d_M_heat_14 : decode b_M_heat 14 = .ok (.invokestatic 69, 3) := by decide +kernel
theorem d_M_heat_17 : decode b_M_heat 17 = .ok (.ifCond .eq 19, 3) := by decide +kernel
theorem d_M_heat_20 : decode b_M_heat 20 = .ok (.aload_n 0, 1) := by decide +kernel
theorem d_M_heat_21 : decode b_M_heat 21 = .ok (.getfield 16, 3) := by decide +kernel
theorem d_M_heat_24 : decode b_M_heat 24 = .ok (.iload_n 1, 1) := by decide +kernel
theorem d_M_heat_25 : decode b_M_heat 25 = .ok (.laload, 1) := by decide +kernel
theorem d_M_heat_26 : decode b_M_heat 26 = .ok (.iload_n 2, 1) := by decide +kernel
theorem d_M_heat_27 : decode b_M_heat 27 = .ok (.i2l, 1) := by decide +kernel
theorem d_M_heat_28 : decode b_M_heat 28 = .ok (.ladd, 1) := by decide +kernel
theorem d_M_heat_29 : decode b_M_heat 29 = .ok (.ldc2_w 73, 3) := by decide +kernel
theorem d_M_heat_32 : decode b_M_heat 32 = .ok (.lcmp, 1) := by decide +kernel
theorem d_M_heat_33 : decode b_M_heat 33 = .ok (.ifCond .le 5, 3) := by decide +kernel
theorem d_M_heat_36 : decode b_M_heat 36 = .ok (.iconst 0, 1) := by decide +kernel
theorem d_M_heat_37 : decode b_M_heat 37 = .ok (.ireturn, 1) := by decide +kernel
theorem d_M_heat_38 : decode b_M_heat 38 = .ok (.aload_n 0, 1) := by decide +kernel
theorem d_M_heat_39 : decode b_M_heat 39 = .ok (.getfield 16, 3) := by decide +kernel
theorem d_M_heat_42 : decode b_M_heat 42 = .ok (.iload_n 1, 1) := by decide +kernel
theorem d_M_heat_43 : decode b_M_heat 43 = .ok (.dup2, 1) := by decide +kernel
theorem d_M_heat_44 : decode b_M_heat 44 = .ok (.laload, 1) := by decide +kernel
theorem d_M_heat_45 : decode b_M_heat 45 = .ok (.iload_n 2, 1) := by decide +kernel
theorem d_M_heat_46 : decode b_M_heat 46 = .ok (.i2l, 1) := by decide +kernel
theorem d_M_heat_47 : decode b_M_heat 47 = .ok (.ladd, 1) := by decide +kernel
theorem d_M_heat_48 : decode b_M_heat 48 = .ok (.lastore, 1) := by decide +kernel
theorem d_M_heat_49 : decode b_M_heat 49 = .ok (.aload_n 0, 1) := by decide +kernel
theorem d_M_heat_50 : decode b_M_heat 50 = .ok (.getfield 50, 3) := by decide +kernel
theorem d_M_heat_53 : decode b_M_heat 53 = .ok (.iconst 2, 1) := by decide +kernel
theorem d_M_heat_54 : decode b_M_heat 54 = .ok (.dup2, 1) := by decide +kernel
theorem d_M_heat_55 : decode b_M_heat 55 = .ok (.laload, 1) := by decide +kernel
theorem d_M_heat_56 : decode b_M_heat 56 = .ok (.iload_n 2, 1) := by decide +kernel
theorem d_M_heat_57 : decode b_M_heat 57 = .ok (.i2l, 1) := by decide +kernel
theorem d_M_heat_58 : decode b_M_heat 58 = .ok (.ladd, 1) := by decide +kernel
theorem d_M_heat_59 : decode b_M_heat 59 = .ok (.lastore, 1) := by decide +kernel
theorem d_M_heat_60 : decode b_M_heat 60 = .ok (.iconst 1, 1) := by decide +kernel
theorem d_M_heat_61 : decode b_M_heat 61 = .ok (.ireturn, 1) := by decide +kernel
theorem d_M_rate_0 : decode b_M_rate 0 = .ok (.iload_n 1, 1) := by decide +kernel
theorem d_M_rate_1 : decode b_M_rate 1 = .ok (.invokestatic 64, 3) := by decide +kernel
theorem d_M_rate_4 : decode b_M_rate 4 = .ok (.ifCond .eq 37, 3) := by decide +kernel
theorem d_M_rate_7 : decode b_M_rate 7 = .ok (.aload_n 0, 1) := by decide +kernel
theorem d_M_rate_8 : decode b_M_rate 8 = .ok (.getfield 25, 3) := by decide +kernel
theorem d_M_rate_11 : decode b_M_rate 11 = .ok (.iload_n 1, 1) := by decide +kernel
theorem d_M_rate_12 : decode b_M_rate 12 = .ok (.iaload, 1) := by decide +kernel
theorem d_M_rate_13 : decode b_M_rate 13 = .ok (.iconst 4, 1) := by decide +kernel
theorem d_M_rate_14 : decode b_M_rate 14 = .ok (.if_icmp .eq 27, 3) := by decide +kernel
theorem d_M_rate_17 : decode b_M_rate 17 = .ok (.iload_n 2, 1) := by decide +kernel
theorem d_M_rate_18 : decode b_M_rate 18 = .ok (.i2l, 1) := by decide +kernel
theorem d_M_rate_19 : decode b_M_rate 19 = .ok (.lconst 0, 1) := by decide +kernel
theorem d_M_rate_20 : decode b_M_rate 20 = .ok (.ldc2_w 67, 3) := by decide +kernel
theorem d_M_rate_23 : decode b_M_rate 23 = .ok (.invokestatic 69, 3) := by decide +kernel
theorem d_M_rate_26 : decode b_M_rate 26 = .ok (.ifCond .eq 15, 3) := by decide +kernel
theorem d_M_rate_29 : decode b_M_rate 29 = .ok (.iload_n 3, 1) := by decide +kernel
theorem d_M_rate_30 : decode b_M_rate 30 = .ok (.i2l, 1) := by decide +kernel
theorem d_M_rate_31 : decode b_M_rate 31 = .ok (.lconst 0, 1) := by decide +kernel
theorem d_M_rate_32 : decode b_M_rate 32 = .ok (.ldc2_w 75, 3) := by decide +kernel
theorem d_M_rate_35 : decode b_M_rate 35 = .ok (.invokestatic 69, 3) := by decide +kernel
theorem d_M_rate_38 : decode b_M_rate 38 = .ok (.ifCond .ne 5, 3) := by decide +kernel
theorem d_M_rate_41 : decode b_M_rate 41 = .ok (.iconst 0, 1) := by decide +kernel
theorem d_M_rate_42 : decode b_M_rate 42 = .ok (.ireturn, 1) := by decide +kernel
theorem d_M_rate_43 : decode b_M_rate 43 = .ok (.iconst 4, 1) := by decide +kernel
theorem d_M_rate_44 : decode b_M_rate 44 = .ok (.iload_n 1, 1) := by decide +kernel
theorem d_M_rate_45 : decode b_M_rate 45 = .ok (.imul, 1) := by decide +kernel
theorem d_M_rate_46 : decode b_M_rate 46 = .ok (.aload_n 0, 1) := by decide +kernel
theorem d_M_rate_47 : decode b_M_rate 47 = .ok (.getfield 25, 3) := by decide +kernel
theorem d_M_rate_50 : decode b_M_rate 50 = .ok (.iload_n 1, 1) := by decide +kernel
theorem d_M_rate_51 : decode b_M_rate 51 = .ok (.iaload, 1) := by decide +kernel
theorem d_M_rate_52 : decode b_M_rate 52 = .ok (.iadd, 1) := by decide +kernel
theorem d_M_rate_53 : decode b_M_rate 53 = .ok (.istore 4, 2) := by decide +kernel
theorem d_M_rate_55 : decode b_M_rate 55 = .ok (.aload_n 0, 1) := by decide +kernel
theorem d_M_rate_56 : decode b_M_rate 56 = .ok (.getfield 25, 3) := by decide +kernel
theorem d_M_rate_59 : decode b_M_rate 59 = .ok (.iload_n 1, 1) := by decide +kernel
theorem d_M_rate_60 : decode b_M_rate 60 = .ok (.iaload, 1) := by decide +kernel
theorem d_M_rate_61 : decode b_M_rate 61 = .ok (.ifCond .le 18, 3) := by decide +kernel
theorem d_M_rate_64 : decode b_M_rate 64 = .ok (.iload_n 2, 1) := by decide +kernel
theorem d_M_rate_65 : decode b_M_rate 65 = .ok (.aload_n 0, 1) := by decide +kernel
theorem d_M_rate_66 : decode b_M_rate 66 = .ok (.getfield 29, 3) := by decide +kernel
theorem d_M_rate_69 : decode b_M_rate 69 = .ok (.iload 4, 2) := by decide +kernel
theorem d_M_rate_71 : decode b_M_rate 71 = .ok (.iconst 1, 1) := by decide +kernel
theorem d_M_rate_72 : decode b_M_rate 72 = .ok (.isub, 1) := by decide +kernel
theorem d_M_rate_73 : decode b_M_rate 73 = .ok (.iaload, 1) := by decide +kernel
theorem d_M_rate_74 : decode b_M_rate 74 = .ok (.if_icmp .gt 5, 3) := by decide +kernel
theorem d_M_rate_77 : decode b_M_rate 77 = .ok (.iconst 0, 1) := by decide +kernel
theorem d_M_rate_78 : decode b_M_rate 78 = .ok (.ireturn, 1) := by decide +kernel
theorem d_M_rate_79 : decode b_M_rate 79 = .ok (.aload_n 0, 1) := by decide +kernel
theorem d_M_rate_80 : decode b_M_rate 80 = .ok (.getfield 29, 3) := by decide +kernel
theorem d_M_rate_83 : decode b_M_rate 83 = .ok (.iload 4, 2) := by decide +kernel
theorem d_M_rate_85 : decode b_M_rate 85 = .ok (.iload_n 2, 1) := by decide +kernel
theorem d_M_rate_86 : decode b_M_rate 86 = .ok (.iastore, 1) := by decide +kernel
theorem d_M_rate_87 : decode b_M_rate 87 = .ok (.aload_n 0, 1) := by decide +kernel
theorem d_M_rate_88 : decode b_M_rate 88 = .ok (.getfield 32, 3) := by decide +kernel
theorem d_M_rate_91 : decode b_M_rate 91 = .ok (.iload 4, 2) := by decide +kernel
theorem d_M_rate_93 : decode b_M_rate 93 = .ok (.iload_n 3, 1) := by decide +kernel
theorem d_M_rate_94 : decode b_M_rate 94 = .ok (.iastore, 1) := by decide +kernel
theorem d_M_rate_95 : decode b_M_rate 95 = .ok (.aload_n 0, 1) := by decide +kernel
theorem d_M_rate_96 : decode b_M_rate 96 = .ok (.getfield 25, 3) := by decide +kernel
theorem d_M_rate_99 : decode b_M_rate 99 = .ok (.iload_n 1, 1) := by decide +kernel
theorem d_M_rate_100 : decode b_M_rate 100 = .ok (.dup2, 1) := by decide +kernel
theorem d_M_rate_101 : decode b_M_rate 101 = .ok (.iaload, 1) := by decide +kernel
theorem d_M_rate_102 : decode b_M_rate 102 = .ok (.iconst 1, 1) := by decide +kernel
theorem d_M_rate_103 : decode b_M_rate 103 = .ok (.iadd, 1) := by decide +kernel
theorem d_M_rate_104 : decode b_M_rate 104 = .ok (.iastore, 1) := by decide +kernel
theorem d_M_rate_105 : decode b_M_rate 105 = .ok (.iconst 1, 1) := by decide +kernel
theorem d_M_rate_106 : decode b_M_rate 106 = .ok (.ireturn, 1) := by decide +kernel
theorem d_M_yields_0 : decode b_M_yields 0 = .ok (.iload_n 1, 1) := by decide +kernel
theorem d_M_yields_1 : decode b_M_yields 1 = .ok (.invokestatic 64, 3) := by decide +kernel
theorem d_M_yields_4 : decode b_M_yields 4 = .ok (.ifCond .eq 27, 3) := by decide +kernel
theorem d_M_yields_7 : decode b_M_yields 7 = .ok (.iload_n 2, 1) := by decide +kernel
theorem d_M_yields_8 : decode b_M_yields 8 = .ok (.i2l, 1) := by decide +kernel
theorem d_M_yields_9 : decode b_M_yields 9 = .ok (.lconst 0, 1) := by decide +kernel
theorem d_M_yields_10 : decode b_M_yields 10 = .ok (.ldc2_w 75, 3) := by decide +kernel
theorem d_M_yields_13 : decode b_M_yields 13 = .ok (.invokestatic 69, 3) := by decide +kernel
theorem d_M_yields_16 : decode b_M_yields 16 = .ok (.ifCond .eq 15, 3) := by decide +kernel
theorem d_M_yields_19 : decode b_M_yields 19 = .ok (.iload_n 3, 1) := by decide +kernel
theorem d_M_yields_20 : decode b_M_yields 20 = .ok (.i2l, 1) := by decide +kernel
theorem d_M_yields_21 : decode b_M_yields 21 = .ok (.lconst 0, 1) := by decide +kernel
theorem d_M_yields_22 : decode b_M_yields 22 = .ok (.ldc2_w 77, 3) := by decide +kernel
theorem d_M_yields_25 : decode b_M_yields 25 = .ok (.invokestatic 69, 3) := by decide +kernel
theorem d_M_yields_28 : decode b_M_yields 28 = .ok (.ifCond .ne 5, 3) := by decide +kernel
theorem d_M_yields_31 : decode b_M_yields 31 = .ok (.iconst 0, 1) := by decide +kernel
theorem d_M_yields_32 : decode b_M_yields 32 = .ok (.ireturn, 1) := by decide +kernel
theorem d_M_yields_33 : decode b_M_yields 33 = .ok (.aload_n 0, 1) := by decide +kernel
theorem d_M_yields_34 : decode b_M_yields 34 = .ok (.getfield 35, 3) := by decide +kernel
theorem d_M_yields_37 : decode b_M_yields 37 = .ok (.iload_n 1, 1) := by decide +kernel
theorem d_M_yields_38 : decode b_M_yields 38 = .ok (.iload_n 2, 1) := by decide +kernel
theorem d_M_yields_39 : decode b_M_yields 39 = .ok (.iastore, 1) := by decide +kernel
theorem d_M_yields_40 : decode b_M_yields 40 = .ok (.aload_n 0, 1) := by decide +kernel
theorem d_M_yields_41 : decode b_M_yields 41 = .ok (.getfield 38, 3) := by decide +kernel
theorem d_M_yields_44 : decode b_M_yields 44 = .ok (.iload_n 1, 1) := by decide +kernel
theorem d_M_yields_45 : decode b_M_yields 45 = .ok (.iload_n 3, 1) := by decide +kernel
theorem d_M_yields_46 : decode b_M_yields 46 = .ok (.iastore, 1) := by decide +kernel
theorem d_M_yields_47 : decode b_M_yields 47 = .ok (.iconst 1, 1) := by decide +kernel
theorem d_M_yields_48 : decode b_M_yields 48 = .ok (.ireturn, 1) := by decide +kernel
theorem d_M_bounds_0 : decode b_M_bounds 0 = .ok (.aload_n 0, 1) := by decide +kernel
theorem d_M_bounds_1 : decode b_M_bounds 1 = .ok (.iload_n 1, 1) := by decide +kernel
theorem d_M_bounds_2 : decode b_M_bounds 2 = .ok (.invokevirtual 60, 3) := by decide +kernel
theorem d_M_bounds_5 : decode b_M_bounds 5 = .ok (.ifCond .eq 27, 3) := by decide +kernel
theorem d_M_bounds_8 : decode b_M_bounds 8 = .ok (.iload_n 2, 1) := by decide +kernel
theorem d_M_bounds_9 : decode b_M_bounds 9 = .ok (.i2l, 1) := by decide +kernel
theorem d_M_bounds_10 : decode b_M_bounds 10 = .ok (.lconst 0, 1) := by decide +kernel
theorem d_M_bounds_11 : decode b_M_bounds 11 = .ok (.ldc2_w 41, 3) := by decide +kernel
theorem d_M_bounds_14 : decode b_M_bounds 14 = .ok (.invokestatic 69, 3) := by decide +kernel
theorem d_M_bounds_17 : decode b_M_bounds 17 = .ok (.ifCond .eq 15, 3) := by decide +kernel
theorem d_M_bounds_20 : decode b_M_bounds 20 = .ok (.iload_n 3, 1) := by decide +kernel
theorem d_M_bounds_21 : decode b_M_bounds 21 = .ok (.i2l, 1) := by decide +kernel
theorem d_M_bounds_22 : decode b_M_bounds 22 = .ok (.lconst 0, 1) := by decide +kernel
theorem d_M_bounds_23 : decode b_M_bounds 23 = .ok (.ldc2_w 41, 3) := by decide +kernel
theorem d_M_bounds_26 : decode b_M_bounds 26 = .ok (.invokestatic 69, 3) := by decide +kernel
theorem d_M_bounds_29 : decode b_M_bounds 29 = .ok (.ifCond .ne 5, 3) := by decide +kernel
theorem d_M_bounds_32 : decode b_M_bounds 32 = .ok (.iconst 0, 1) := by decide +kernel
theorem d_M_bounds_33 : decode b_M_bounds 33 = .ok (.ireturn, 1) := by decide +kernel
theorem d_M_bounds_34 : decode b_M_bounds 34 = .ok (.aload_n 0, 1) := by decide +kernel
theorem d_M_bounds_35 : decode b_M_bounds 35 = .ok (.getfield 19, 3) := by decide +kernel
theorem d_M_bounds_38 : decode b_M_bounds 38 = .ok (.iload_n 1, 1) := by decide +kernel
theorem d_M_bounds_39 : decode b_M_bounds 39 = .ok (.iload_n 2, 1) := by decide +kernel
theorem d_M_bounds_40 : decode b_M_bounds 40 = .ok (.i2l, 1) := by decide +kernel
theorem d_M_bounds_41 : decode b_M_bounds 41 = .ok (.lastore, 1) := by decide +kernel
theorem d_M_bounds_42 : decode b_M_bounds 42 = .ok (.aload_n 0, 1) := by decide +kernel
theorem d_M_bounds_43 : decode b_M_bounds 43 = .ok (.getfield 22, 3) := by decide +kernel
theorem d_M_bounds_46 : decode b_M_bounds 46 = .ok (.iload_n 1, 1) := by decide +kernel
theorem d_M_bounds_47 : decode b_M_bounds 47 = .ok (.iload_n 3, 1) := by decide +kernel
theorem d_M_bounds_48 : decode b_M_bounds 48 = .ok (.i2l, 1) := by decide +kernel
theorem d_M_bounds_49 : decode b_M_bounds 49 = .ok (.lastore, 1) := by decide +kernel
theorem d_M_bounds_50 : decode b_M_bounds 50 = .ok (.iconst 1, 1) := by decide +kernel
theorem d_M_bounds_51 : decode b_M_bounds 51 = .ok (.ireturn, 1) := by decide +kernel
theorem d_M_rain_0 : decode b_M_rain 0 = .ok (.aload_n 0, 1) := by decide +kernel
theorem d_M_rain_1 : decode b_M_rain 1 = .ok (.iload_n 1, 1) := by decide +kernel
theorem d_M_rain_2 : decode b_M_rain 2 = .ok (.i2l, 1) := by decide +kernel
theorem d_M_rain_3 : decode b_M_rain 3 = .ok (.lconst 0, 1) := by decide +kernel
theorem d_M_rain_4 : decode b_M_rain 4 = .ok (.ldc2_w 75, 3) := by decide +kernel
theorem d_M_rain_7 : decode b_M_rain 7 = .ok (.invokestatic 69, 3) := by decide +kernel
theorem d_M_rain_10 : decode b_M_rain 10 = .ok (.ifCond .eq 7, 3) := by decide +kernel
theorem d_M_rain_13 : decode b_M_rain 13 = .ok (.iload_n 1, 1) := by decide +kernel
theorem d_M_rain_14 : decode b_M_rain 14 = .ok (.goto 7, 3) := by decide +kernel
theorem d_M_rain_17 : decode b_M_rain 17 = .ok (.aload_n 0, 1) := by decide +kernel
theorem d_M_rain_18 : decode b_M_rain 18 = .ok (.getfield 79, 3) := by decide +kernel
theorem d_M_rain_21 : decode b_M_rain 21 = .ok (.putfield 79, 3) := by decide +kernel
theorem d_M_rain_24 : decode b_M_rain 24 = .ok (.iload_n 1, 1) := by decide +kernel
theorem d_M_rain_25 : decode b_M_rain 25 = .ok (.i2l, 1) := by decide +kernel
theorem d_M_rain_26 : decode b_M_rain 26 = .ok (.lconst 0, 1) := by decide +kernel
theorem d_M_rain_27 : decode b_M_rain 27 = .ok (.ldc2_w 75, 3) := by decide +kernel
theorem d_M_rain_30 : decode b_M_rain 30 = .ok (.invokestatic 69, 3) := by decide +kernel
theorem d_M_rain_33 : decode b_M_rain 33 = .ok (.ireturn, 1) := by decide +kernel
theorem d_M_loss_0 : decode b_M_loss 0 = .ok (.aload_n 0, 1) := by decide +kernel
theorem d_M_loss_1 : decode b_M_loss 1 = .ok (.iload_n 1, 1) := by decide +kernel
theorem d_M_loss_2 : decode b_M_loss 2 = .ok (.i2l, 1) := by decide +kernel
theorem d_M_loss_3 : decode b_M_loss 3 = .ok (.lconst 0, 1) := by decide +kernel
theorem d_M_loss_4 : decode b_M_loss 4 = .ok (.ldc2_w 67, 3) := by decide +kernel
theorem d_M_loss_7 : decode b_M_loss 7 = .ok (.invokestatic 69, 3) := by decide +kernel
theorem d_M_loss_10 : decode b_M_loss 10 = .ok (.ifCond .eq 7, 3) := by decide +kernel
theorem d_M_loss_13 : decode b_M_loss 13 = .ok (.iload_n 1, 1) := by decide +kernel
theorem d_M_loss_14 : decode b_M_loss 14 = .ok (.goto 7, 3) := by decide +kernel
theorem d_M_loss_17 : decode b_M_loss 17 = .ok (.aload_n 0, 1) := by decide +kernel
theorem d_M_loss_18 : decode b_M_loss 18 = .ok (.getfield 82, 3) := by decide +kernel
theorem d_M_loss_21 : decode b_M_loss 21 = .ok (.putfield 82, 3) := by decide +kernel
theorem d_M_loss_24 : decode b_M_loss 24 = .ok (.iload_n 1, 1) := by decide +kernel
theorem d_M_loss_25 : decode b_M_loss 25 = .ok (.i2l, 1) := by decide +kernel
theorem d_M_loss_26 : decode b_M_loss 26 = .ok (.lconst 0, 1) := by decide +kernel
theorem d_M_loss_27 : decode b_M_loss 27 = .ok (.ldc2_w 67, 3) := by decide +kernel
theorem d_M_loss_30 : decode b_M_loss 30 = .ok (.invokestatic 69, 3) := by decide +kernel
theorem d_M_loss_33 : decode b_M_loss 33 = .ok (.ireturn, 1) := by decide +kernel
theorem d_M_fan_0 : decode b_M_fan 0 = .ok (.iload_n 1, 1) := by decide +kernel
theorem d_M_fan_1 : decode b_M_fan 1 = .ok (.i2l, 1) := by decide +kernel
theorem d_M_fan_2 : decode b_M_fan 2 = .ok (.lconst 0, 1) := by decide +kernel
theorem d_M_fan_3 : decode b_M_fan 3 = .ok (.ldc2_w 67, 3) := by decide +kernel
theorem d_M_fan_6 : decode b_M_fan 6 = .ok (.invokestatic 69, 3) := by decide +kernel
theorem d_M_fan_9 : decode b_M_fan 9 = .ok (.ifCond .eq 31, 3) := by decide +kernel
theorem d_M_fan_12 : decode b_M_fan 12 = .ok (.iload_n 2, 1) := by decide +kernel
theorem d_M_fan_13 : decode b_M_fan 13 = .ok (.i2l, 1) := by decide +kernel
theorem d_M_fan_14 : decode b_M_fan 14 = .ok (.ldc2_w 85, 3) := by decide +kernel
theorem d_M_fan_17 : decode b_M_fan 17 = .ok (.ldc2_w 77, 3) := by decide +kernel
theorem d_M_fan_20 : decode b_M_fan 20 = .ok (.invokestatic 69, 3) := by decide +kernel
theorem d_M_fan_23 : decode b_M_fan 23 = .ok (.ifCond .eq 17, 3) := by decide +kernel
theorem d_M_fan_26 : decode b_M_fan 26 = .ok (.iload_n 3, 1) := by decide +kernel
theorem d_M_fan_27 : decode b_M_fan 27 = .ok (.i2l, 1) := by decide +kernel
theorem d_M_fan_28 : decode b_M_fan 28 = .ok (.ldc2_w 85, 3) := by decide +kernel
theorem d_M_fan_31 : decode b_M_fan 31 = .ok (.ldc2_w 77, 3) := by decide +kernel
theorem d_M_fan_34 : decode b_M_fan 34 = .ok (.invokestatic 69, 3) := by decide +kernel
theorem d_M_fan_37 : decode b_M_fan 37 = .ok (.ifCond .ne 5, 3) := by decide +kernel
theorem d_M_fan_40 : decode b_M_fan 40 = .ok (.iconst 0, 1) := by decide +kernel
theorem d_M_fan_41 : decode b_M_fan 41 = .ok (.ireturn, 1) := by decide +kernel
theorem d_M_fan_42 : decode b_M_fan 42 = .ok (.aload_n 0, 1) := by decide +kernel
theorem d_M_fan_43 : decode b_M_fan 43 = .ok (.iconst 1, 1) := by decide +kernel
theorem d_M_fan_44 : decode b_M_fan 44 = .ok (.putfield 87, 3) := by decide +kernel
theorem d_M_fan_47 : decode b_M_fan 47 = .ok (.aload_n 0, 1) := by decide +kernel
theorem d_M_fan_48 : decode b_M_fan 48 = .ok (.iload_n 1, 1) := by decide +kernel
theorem d_M_fan_49 : decode b_M_fan 49 = .ok (.putfield 91, 3) := by decide +kernel
theorem d_M_fan_52 : decode b_M_fan 52 = .ok (.aload_n 0, 1) := by decide +kernel
theorem d_M_fan_53 : decode b_M_fan 53 = .ok (.iload_n 2, 1) := by decide +kernel
theorem d_M_fan_54 : decode b_M_fan 54 = .ok (.putfield 94, 3) := by decide +kernel
theorem d_M_fan_57 : decode b_M_fan 57 = .ok (.aload_n 0, 1) := by decide +kernel
theorem d_M_fan_58 : decode b_M_fan 58 = .ok (.iload_n 3, 1) := by decide +kernel
theorem d_M_fan_59 : decode b_M_fan 59 = .ok (.putfield 97, 3) := by decide +kernel
theorem d_M_fan_62 : decode b_M_fan 62 = .ok (.aload_n 0, 1) := by decide +kernel
theorem d_M_fan_63 : decode b_M_fan 63 = .ok (.lconst 0, 1) := by decide +kernel
theorem d_M_fan_64 : decode b_M_fan 64 = .ok (.putfield 100, 3) := by decide +kernel
theorem d_M_fan_67 : decode b_M_fan 67 = .ok (.iconst 1, 1) := by decide +kernel
theorem d_M_fan_68 : decode b_M_fan 68 = .ok (.ireturn, 1) := by decide +kernel
theorem d_M_limit_0 : decode b_M_limit 0 = .ok (.aload_n 0, 1) := by decide +kernel
theorem d_M_limit_1 : decode b_M_limit 1 = .ok (.iload_n 1, 1) := by decide +kernel
theorem d_M_limit_2 : decode b_M_limit 2 = .ok (.i2l, 1) := by decide +kernel
theorem d_M_limit_3 : decode b_M_limit 3 = .ok (.lconst 0, 1) := by decide +kernel
theorem d_M_limit_4 : decode b_M_limit 4 = .ok (.ldc2_w 41, 3) := by decide +kernel
theorem d_M_limit_7 : decode b_M_limit 7 = .ok (.invokestatic 69, 3) := by decide +kernel
theorem d_M_limit_10 : decode b_M_limit 10 = .ok (.ifCond .eq 8, 3) := by decide +kernel
theorem d_M_limit_13 : decode b_M_limit 13 = .ok (.iload_n 1, 1) := by decide +kernel
theorem d_M_limit_14 : decode b_M_limit 14 = .ok (.i2l, 1) := by decide +kernel
theorem d_M_limit_15 : decode b_M_limit 15 = .ok (.goto 7, 3) := by decide +kernel
theorem d_M_limit_18 : decode b_M_limit 18 = .ok (.aload_n 0, 1) := by decide +kernel
theorem d_M_limit_19 : decode b_M_limit 19 = .ok (.getfield 43, 3) := by decide +kernel
theorem d_M_limit_22 : decode b_M_limit 22 = .ok (.putfield 43, 3) := by decide +kernel
theorem d_M_limit_25 : decode b_M_limit 25 = .ok (.iload_n 1, 1) := by decide +kernel
theorem d_M_limit_26 : decode b_M_limit 26 = .ok (.i2l, 1) := by decide +kernel
theorem d_M_limit_27 : decode b_M_limit 27 = .ok (.lconst 0, 1) := by decide +kernel
theorem d_M_limit_28 : decode b_M_limit 28 = .ok (.ldc2_w 41, 3) := by decide +kernel
theorem d_M_limit_31 : decode b_M_limit 31 = .ok (.invokestatic 69, 3) := by decide +kernel
theorem d_M_limit_34 : decode b_M_limit 34 = .ok (.ireturn, 1) := by decide +kernel
theorem d_M_run_0 : decode b_M_run 0 = .ok (.iload_n 1, 1) := by decide +kernel
theorem d_M_run_1 : decode b_M_run 1 = .ok (.i2l, 1) := by decide +kernel
theorem d_M_run_2 : decode b_M_run 2 = .ok (.lconst 1, 1) := by decide +kernel
theorem d_M_run_3 : decode b_M_run 3 = .ok (.ldc2_w 77, 3) := by decide +kernel
theorem d_M_run_6 : decode b_M_run 6 = .ok (.invokestatic 69, 3) := by decide +kernel
theorem d_M_run_9 : decode b_M_run 9 = .ok (.ifCond .eq 20, 3) := by decide +kernel
theorem d_M_run_12 : decode b_M_run 12 = .ok (.aload_n 0, 1) := by decide +kernel
theorem d_M_run_13 : decode b_M_run 13 = .ok (.getfield 47, 3) := by decide +kernel
theorem d_M_run_16 : decode b_M_run 16 = .ok (.bipush 8, 2) := by decide +kernel
theorem d_M_run_18 : decode b_M_run 18 = .ok (.laload, 1) := by decide +kernel
theorem d_M_run_19 : decode b_M_run 19 = .ok (.iload_n 1, 1) := by decide +kernel
theorem d_M_run_20 : decode b_M_run 20 = .ok (.i2l, 1) := by decide +kernel
theorem d_M_run_21 : decode b_M_run 21 = .ok (.ladd, 1) := by decide +kernel
theorem d_M_run_22 : decode b_M_run 22 = .ok (.ldc2_w 143, 3) := by decide +kernel
theorem d_M_run_25 : decode b_M_run 25 = .ok (.lcmp, 1) := by decide +kernel
theorem d_M_run_26 : decode b_M_run 26 = .ok (.ifCond .le 5, 3) := by decide +kernel
theorem d_M_run_29 : decode b_M_run 29 = .ok (.iconst (-1), 1) := by decide +kernel
theorem d_M_run_30 : decode b_M_run 30 = .ok (.ireturn, 1) := by decide +kernel
theorem d_M_run_31 : decode b_M_run 31 = .ok (.iconst 0, 1) := by decide +kernel
theorem d_M_run_32 : decode b_M_run 32 = .ok (.istore_n 2, 1) := by decide +kernel
theorem d_M_run_33 : decode b_M_run 33 = .ok (.iload_n 2, 1) := by decide +kernel
theorem d_M_run_34 : decode b_M_run 34 = .ok (.iload_n 1, 1) := by decide +kernel
theorem d_M_run_35 : decode b_M_run 35 = .ok (.if_icmp .ge 25, 3) := by decide +kernel
theorem d_M_run_38 : decode b_M_run 38 = .ok (.aload_n 0, 1) := by decide +kernel
theorem d_M_run_39 : decode b_M_run 39 = .ok (.invokevirtual 123, 3) := by decide +kernel
theorem d_M_run_42 : decode b_M_run 42 = .ok (.aload_n 0, 1) := by decide +kernel
theorem d_M_run_43 : decode b_M_run 43 = .ok (.getfield 43, 3) := by decide +kernel
theorem d_M_run_46 : decode b_M_run 46 = .ok (.lcmp, 1) := by decide +kernel
theorem d_M_run_47 : decode b_M_run 47 = .ok (.ifCond .gt 13, 3) := by decide +kernel
theorem d_M_run_50 : decode b_M_run 50 = .ok (.aload_n 0, 1) := by decide +kernel
theorem d_M_run_51 : decode b_M_run 51 = .ok (.invokevirtual 145, 3) := by decide +kernel
theorem d_M_run_54 : decode b_M_run 54 = .ok (.iinc 2 1, 3) := by decide +kernel
theorem d_M_run_57 : decode b_M_run 57 = .ok (.goto (-24), 3) := by decide +kernel
theorem d_M_run_60 : decode b_M_run 60 = .ok (.iload_n 2, 1) := by decide +kernel
theorem d_M_run_61 : decode b_M_run 61 = .ok (.ireturn, 1) := by decide +kernel
theorem d_M_warmest_0 : decode b_M_warmest 0 = .ok (.aload_n 0, 1) := by decide +kernel
theorem d_M_warmest_1 : decode b_M_warmest 1 = .ok (.iconst 0, 1) := by decide +kernel
theorem d_M_warmest_2 : decode b_M_warmest 2 = .ok (.invokevirtual 107, 3) := by decide +kernel
theorem d_M_warmest_5 : decode b_M_warmest 5 = .ok (.lstore_n 1, 1) := by decide +kernel
theorem d_M_warmest_6 : decode b_M_warmest 6 = .ok (.iconst 1, 1) := by decide +kernel
theorem d_M_warmest_7 : decode b_M_warmest 7 = .ok (.istore_n 3, 1) := by decide +kernel
theorem d_M_warmest_8 : decode b_M_warmest 8 = .ok (.iload_n 3, 1) := by decide +kernel
theorem d_M_warmest_9 : decode b_M_warmest 9 = .ok (.aload_n 0, 1) := by decide +kernel
theorem d_M_warmest_10 : decode b_M_warmest 10 = .ok (.getfield 56, 3) := by decide +kernel
theorem d_M_warmest_13 : decode b_M_warmest 13 = .ok (.if_icmp .ge 29, 3) := by decide +kernel
theorem d_M_warmest_16 : decode b_M_warmest 16 = .ok (.aload_n 0, 1) := by decide +kernel
theorem d_M_warmest_17 : decode b_M_warmest 17 = .ok (.iload_n 3, 1) := by decide +kernel
theorem d_M_warmest_18 : decode b_M_warmest 18 = .ok (.invokevirtual 107, 3) := by decide +kernel
theorem d_M_warmest_21 : decode b_M_warmest 21 = .ok (.lload_n 1, 1) := by decide +kernel
theorem d_M_warmest_22 : decode b_M_warmest 22 = .ok (.lcmp, 1) := by decide +kernel
theorem d_M_warmest_23 : decode b_M_warmest 23 = .ok (.ifCond .le 11, 3) := by decide +kernel
theorem d_M_warmest_26 : decode b_M_warmest 26 = .ok (.aload_n 0, 1) := by decide +kernel
theorem d_M_warmest_27 : decode b_M_warmest 27 = .ok (.iload_n 3, 1) := by decide +kernel
theorem d_M_warmest_28 : decode b_M_warmest 28 = .ok (.invokevirtual 107, 3) := by decide +kernel
theorem d_M_warmest_31 : decode b_M_warmest 31 = .ok (.goto 4, 3) := by decide +kernel
theorem d_M_warmest_34 : decode b_M_warmest 34 = .ok (.lload_n 1, 1) := by decide +kernel
theorem d_M_warmest_35 : decode b_M_warmest 35 = .ok (.lstore_n 1, 1) := by decide +kernel
theorem d_M_warmest_36 : decode b_M_warmest 36 = .ok (.iinc 3 1, 3) := by decide +kernel
theorem d_M_warmest_39 : decode b_M_warmest 39 = .ok (.goto (-31), 3) := by decide +kernel
theorem d_M_warmest_42 : decode b_M_warmest 42 = .ok (.lload_n 1, 1) := by decide +kernel
theorem d_M_warmest_43 : decode b_M_warmest 43 = .ok (.lreturn, 1) := by decide +kernel
theorem d_M_warmthOf_0 : decode b_M_warmthOf 0 = .ok (.aload_n 0, 1) := by decide +kernel
theorem d_M_warmthOf_1 : decode b_M_warmthOf 1 = .ok (.iload_n 1, 1) := by decide +kernel
theorem d_M_warmthOf_2 : decode b_M_warmthOf 2 = .ok (.invokevirtual 103, 3) := by decide +kernel
theorem d_M_warmthOf_5 : decode b_M_warmthOf 5 = .ok (.lconst 0, 1) := by decide +kernel
theorem d_M_warmthOf_6 : decode b_M_warmthOf 6 = .ok (.lcmp, 1) := by decide +kernel
theorem d_M_warmthOf_7 : decode b_M_warmthOf 7 = .ok (.ifCond .ne 7, 3) := by decide +kernel
theorem d_M_warmthOf_10 : decode b_M_warmthOf 10 = .ok (.lconst 0, 1) := by decide +kernel
theorem d_M_warmthOf_11 : decode b_M_warmthOf 11 = .ok (.goto 15, 3) := by decide +kernel
theorem d_M_warmthOf_14 : decode b_M_warmthOf 14 = .ok (.aload_n 0, 1) := by decide +kernel
theorem d_M_warmthOf_15 : decode b_M_warmthOf 15 = .ok (.getfield 16, 3) := by decide +kernel
theorem d_M_warmthOf_18 : decode b_M_warmthOf 18 = .ok (.iload_n 1, 1) := by decide +kernel
theorem d_M_warmthOf_19 : decode b_M_warmthOf 19 = .ok (.laload, 1) := by decide +kernel
theorem d_M_warmthOf_20 : decode b_M_warmthOf 20 = .ok (.aload_n 0, 1) := by decide +kernel
theorem d_M_warmthOf_21 : decode b_M_warmthOf 21 = .ok (.iload_n 1, 1) := by decide +kernel
theorem d_M_warmthOf_22 : decode b_M_warmthOf 22 = .ok (.invokevirtual 103, 3) := by decide +kernel
theorem d_M_warmthOf_25 : decode b_M_warmthOf 25 = .ok (.ldiv, 1) := by decide +kernel
theorem d_M_warmthOf_26 : decode b_M_warmthOf 26 = .ok (.lreturn, 1) := by decide +kernel
theorem d_M_massOf_0 : decode b_M_massOf 0 = .ok (.aload_n 0, 1) := by decide +kernel
theorem d_M_massOf_1 : decode b_M_massOf 1 = .ok (.getfield 13, 3) := by decide +kernel
theorem d_M_massOf_4 : decode b_M_massOf 4 = .ok (.iload_n 1, 1) := by decide +kernel
theorem d_M_massOf_5 : decode b_M_massOf 5 = .ok (.laload, 1) := by decide +kernel
theorem d_M_massOf_6 : decode b_M_massOf 6 = .ok (.lstore_n 2, 1) := by decide +kernel
theorem d_M_massOf_7 : decode b_M_massOf 7 = .ok (.iconst 0, 1) := by decide +kernel
theorem d_M_massOf_8 : decode b_M_massOf 8 = .ok (.istore 4, 2) := by decide +kernel
theorem d_M_massOf_10 : decode b_M_massOf 10 = .ok (.iload 4, 2) := by decide +kernel
theorem d_M_massOf_12 : decode b_M_massOf 12 = .ok (.iconst 3, 1) := by decide +kernel
theorem d_M_massOf_13 : decode b_M_massOf 13 = .ok (.if_icmp .ge 23, 3) := by decide +kernel
theorem d_M_massOf_16 : decode b_M_massOf 16 = .ok (.lload_n 2, 1) := by decide +kernel
theorem d_M_massOf_17 : decode b_M_massOf 17 = .ok (.aload_n 0, 1) := by decide +kernel
theorem d_M_massOf_18 : decode b_M_massOf 18 = .ok (.getfield 7, 3) := by decide +kernel
theorem d_M_massOf_21 : decode b_M_massOf 21 = .ok (.iconst 3, 1) := by decide +kernel
theorem d_M_massOf_22 : decode b_M_massOf 22 = .ok (.iload_n 1, 1) := by decide +kernel
theorem d_M_massOf_23 : decode b_M_massOf 23 = .ok (.imul, 1) := by decide +kernel
theorem d_M_massOf_24 : decode b_M_massOf 24 = .ok (.iload 4, 2) := by decide +kernel
theorem d_M_massOf_26 : decode b_M_massOf 26 = .ok (.iadd, 1) := by decide +kernel
theorem d_M_massOf_27 : decode b_M_massOf 27 = .ok (.laload, 1) := by decide +kernel
theorem d_M_massOf_28 : decode b_M_massOf 28 = .ok (.ladd, 1) := by decide +kernel
theorem d_M_massOf_29 : decode b_M_massOf 29 = .ok (.lstore_n 2, 1) := by decide +kernel
theorem d_M_massOf_30 : decode b_M_massOf 30 = .ok (.iinc 4 1, 3) := by decide +kernel
theorem d_M_massOf_33 : decode b_M_massOf 33 = .ok (.goto (-23), 3) := by decide +kernel
theorem d_M_massOf_36 : decode b_M_massOf 36 = .ok (.lload_n 2, 1) := by decide +kernel
theorem d_M_massOf_37 : decode b_M_massOf 37 = .ok (.lreturn, 1) := by decide +kernel
theorem d_M_minute_0 : decode b_M_minute 0 = .ok (.aload_n 0, 1) := by decide +kernel
theorem d_M_minute_1 : decode b_M_minute 1 = .ok (.getfield 13, 3) := by decide +kernel
theorem d_M_minute_4 : decode b_M_minute 4 = .ok (.iconst 0, 1) := by decide +kernel
theorem d_M_minute_5 : decode b_M_minute 5 = .ok (.dup2, 1) := by decide +kernel
theorem d_M_minute_6 : decode b_M_minute 6 = .ok (.laload, 1) := by decide +kernel
theorem d_M_minute_7 : decode b_M_minute 7 = .ok (.aload_n 0, 1) := by decide +kernel
theorem d_M_minute_8 : decode b_M_minute 8 = .ok (.getfield 79, 3) := by decide +kernel
theorem d_M_minute_11 : decode b_M_minute 11 = .ok (.i2l, 1) := by decide +kernel
theorem d_M_minute_12 : decode b_M_minute 12 = .ok (.ladd, 1) := by decide +kernel
theorem d_M_minute_13 : decode b_M_minute 13 = .ok (.lastore, 1) := by decide +kernel
theorem d_M_minute_14 : decode b_M_minute 14 = .ok (.aload_n 0, 1) := by decide +kernel
theorem d_M_minute_15 : decode b_M_minute 15 = .ok (.getfield 47, 3) := by decide +kernel
theorem d_M_minute_18 : decode b_M_minute 18 = .ok (.iconst 3, 1) := by decide +kernel
theorem d_M_minute_19 : decode b_M_minute 19 = .ok (.dup2, 1) := by decide +kernel
theorem d_M_minute_20 : decode b_M_minute 20 = .ok (.laload, 1) := by decide +kernel
theorem d_M_minute_21 : decode b_M_minute 21 = .ok (.aload_n 0, 1) := by decide +kernel
theorem d_M_minute_22 : decode b_M_minute 22 = .ok (.getfield 79, 3) := by decide +kernel
theorem d_M_minute_25 : decode b_M_minute 25 = .ok (.i2l, 1) := by decide +kernel
theorem d_M_minute_26 : decode b_M_minute 26 = .ok (.ladd, 1) := by decide +kernel
theorem d_M_minute_27 : decode b_M_minute 27 = .ok (.lastore, 1) := by decide +kernel
theorem d_M_minute_28 : decode b_M_minute 28 = .ok (.iconst 0, 1) := by decide +kernel
theorem d_M_minute_29 : decode b_M_minute 29 = .ok (.istore_n 1, 1) := by decide +kernel
theorem d_M_minute_30 : decode b_M_minute 30 = .ok (.iload_n 1, 1) := by decide +kernel
theorem d_M_minute_31 : decode b_M_minute 31 = .ok (.aload_n 0, 1) := by decide +kernel
theorem d_M_minute_32 : decode b_M_minute 32 = .ok (.getfield 56, 3) := by decide +kernel
theorem d_M_minute_35 : decode b_M_minute 35 = .ok (.if_icmp .ge 114, 3) := by decide +kernel
theorem d_M_minute_38 : decode b_M_minute 38 = .ok (.aload_n 0, 1) := by decide +kernel
theorem d_M_minute_39 : decode b_M_minute 39 = .ok (.getfield 13, 3) := by decide +kernel
theorem d_M_minute_42 : decode b_M_minute 42 = .ok (.iload_n 1, 1) := by decide +kernel
theorem d_M_minute_43 : decode b_M_minute 43 = .ok (.laload, 1) := by decide +kernel
theorem d_M_minute_44 : decode b_M_minute 44 = .ok (.aload_n 0, 1) := by decide +kernel
theorem d_M_minute_45 : decode b_M_minute 45 = .ok (.getfield 19, 3) := by decide +kernel
theorem d_M_minute_48 : decode b_M_minute 48 = .ok (.iload_n 1, 1) := by decide +kernel
theorem d_M_minute_49 : decode b_M_minute 49 = .ok (.laload, 1) := by decide +kernel
theorem d_M_minute_50 : decode b_M_minute 50 = .ok (.lcmp, 1) := by decide +kernel
theorem d_M_minute_51 : decode b_M_minute 51 = .ok (.ifCond .lt 8, 3) := by decide +kernel
theorem d_M_minute_54 : decode b_M_minute 54 = .ok (.aload_n 0, 1) := by decide +kernel
theorem d_M_minute_55 : decode b_M_minute 55 = .ok (.iload_n 1, 1) := by decide +kernel
theorem d_M_minute_56 : decode b_M_minute 56 = .ok (.invokevirtual 133, 3) := by decide +kernel
theorem d_M_minute_59 : decode b_M_minute 59 = .ok (.aload_n 0, 1) := by decide +kernel
theorem d_M_minute_60 : decode b_M_minute 60 = .ok (.iload_n 1, 1) := by decide +kernel
theorem d_M_minute_61 : decode b_M_minute 61 = .ok (.invokevirtual 137, 3) := by decide +kernel
theorem d_M_minute_64 : decode b_M_minute 64 = .ok (.aload_n 0, 1) := by decide +kernel
theorem d_M_minute_65 : decode b_M_minute 65 = .ok (.getfield 13, 3) := by decide +kernel
theorem d_M_minute_68 : decode b_M_minute 68 = .ok (.iload_n 1, 1) := by decide +kernel
theorem d_M_minute_69 : decode b_M_minute 69 = .ok (.laload, 1) := by decide +kernel
theorem d_M_minute_70 : decode b_M_minute 70 = .ok (.aload_n 0, 1) := by decide +kernel
theorem d_M_minute_71 : decode b_M_minute 71 = .ok (.getfield 22, 3) := by decide +kernel
theorem d_M_minute_74 : decode b_M_minute 74 = .ok (.iload_n 1, 1) := by decide +kernel
theorem d_M_minute_75 : decode b_M_minute 75 = .ok (.laload, 1) := by decide +kernel
theorem d_M_minute_76 : decode b_M_minute 76 = .ok (.lcmp, 1) := by decide +kernel
theorem d_M_minute_77 : decode b_M_minute 77 = .ok (.ifCond .le 19, 3) := by decide +kernel
theorem d_M_minute_80 : decode b_M_minute 80 = .ok (.aload_n 0, 1) := by decide +kernel
theorem d_M_minute_81 : decode b_M_minute 81 = .ok (.getfield 13, 3) := by decide +kernel
theorem d_M_minute_84 : decode b_M_minute 84 = .ok (.iload_n 1, 1) := by decide +kernel
theorem d_M_minute_85 : decode b_M_minute 85 = .ok (.laload, 1) := by decide +kernel
theorem d_M_minute_86 : decode b_M_minute 86 = .ok (.aload_n 0, 1) := by decide +kernel
theorem d_M_minute_87 : decode b_M_minute 87 = .ok (.getfield 22, 3) := by decide +kernel
theorem d_M_minute_90 : decode b_M_minute 90 = .ok (.iload_n 1, 1) := by decide +kernel
theorem d_M_minute_91 : decode b_M_minute 91 = .ok (.laload, 1) := by decide +kernel
theorem d_M_minute_92 : decode b_M_minute 92 = .ok (.lsub, 1) := by decide +kernel
theorem d_M_minute_93 : decode b_M_minute 93 = .ok (.goto 4, 3) := by decide +kernel
theorem d_M_minute_96 : decode b_M_minute 96 = .ok (.lconst 0, 1) := by decide +kernel
theorem d_M_minute_97 : decode b_M_minute 97 = .ok (.lstore_n 2, 1) := by decide +kernel
theorem d_M_minute_98 : decode b_M_minute 98 = .ok (.aload_n 0, 1) := by decide +kernel
theorem d_M_minute_99 : decode b_M_minute 99 = .ok (.getfield 13, 3) := by decide +kernel
theorem d_M_minute_102 : decode b_M_minute 102 = .ok (.iload_n 1, 1) := by decide +kernel
theorem d_M_minute_103 : decode b_M_minute 103 = .ok (.dup2, 1) := by decide +kernel
theorem d_M_minute_104 : decode b_M_minute 104 = .ok (.laload, 1) := by decide +kernel
theorem d_M_minute_105 : decode b_M_minute 105 = .ok (.lload_n 2, 1) := by decide +kernel
theorem d_M_minute_106 : decode b_M_minute 106 = .ok (.lsub, 1) := by decide +kernel
theorem d_M_minute_107 : decode b_M_minute 107 = .ok (.lastore, 1) := by decide +kernel
theorem d_M_minute_108 : decode b_M_minute 108 = .ok (.iload_n 1, 1) := by decide +kernel
theorem d_M_minute_109 : decode b_M_minute 109 = .ok (.iconst 1, 1) := by decide +kernel
theorem d_M_minute_110 : decode b_M_minute 110 = .ok (.iadd, 1) := by decide +kernel
theorem d_M_minute_111 : decode b_M_minute 111 = .ok (.aload_n 0, 1) := by decide +kernel
theorem d_M_minute_112 : decode b_M_minute 112 = .ok (.getfield 56, 3) := by decide +kernel
theorem d_M_minute_115 : decode b_M_minute 115 = .ok (.if_icmp .ge 18, 3) := by decide +kernel
theorem d_M_minute_118 : decode b_M_minute 118 = .ok (.aload_n 0, 1) := by decide +kernel
theorem d_M_minute_119 : decode b_M_minute 119 = .ok (.getfield 13, 3) := by decide +kernel
theorem d_M_minute_122 : decode b_M_minute 122 = .ok (.iload_n 1, 1) := by decide +kernel
theorem d_M_minute_123 : decode b_M_minute 123 = .ok (.iconst 1, 1) := by decide +kernel
theorem d_M_minute_124 : decode b_M_minute 124 = .ok (.iadd, 1) := by decide +kernel
theorem d_M_minute_125 : decode b_M_minute 125 = .ok (.dup2, 1) := by decide +kernel
theorem d_M_minute_126 : decode b_M_minute 126 = .ok (.laload, 1) := by decide +kernel
theorem d_M_minute_127 : decode b_M_minute 127 = .ok (.lload_n 2, 1) := by decide +kernel
theorem d_M_minute_128 : decode b_M_minute 128 = .ok (.ladd, 1) := by decide +kernel
theorem d_M_minute_129 : decode b_M_minute 129 = .ok (.lastore, 1) := by decide +kernel
theorem d_M_minute_130 : decode b_M_minute 130 = .ok (.goto 13, 3) := by decide +kernel
theorem d_M_minute_133 : decode b_M_minute 133 = .ok (.aload_n 0, 1) := by decide +kernel
theorem d_M_minute_134 : decode b_M_minute 134 = .ok (.getfield 47, 3) := by decide +kernel
theorem d_M_minute_137 : decode b_M_minute 137 = .ok (.iconst 2, 1) := by decide +kernel
theorem d_M_minute_138 : decode b_M_minute 138 = .ok (.dup2, 1) := by decide +kernel
theorem d_M_minute_139 : decode b_M_minute 139 = .ok (.laload, 1) := by decide +kernel
theorem d_M_minute_140 : decode b_M_minute 140 = .ok (.lload_n 2, 1) := by decide +kernel
theorem d_M_minute_141 : decode b_M_minute 141 = .ok (.ladd, 1) := by decide +kernel
theorem d_M_minute_142 : decode b_M_minute 142 = .ok (.lastore, 1) := by decide +kernel
theorem d_M_minute_143 : decode b_M_minute 143 = .ok (.iinc 1 1, 3) := by decide +kernel
theorem d_M_minute_146 : decode b_M_minute 146 = .ok (.goto (-116), 3) := by decide +kernel
theorem d_M_minute_149 : decode b_M_minute 149 = .ok (.aload_n 0, 1) := by decide +kernel
theorem d_M_minute_150 : decode b_M_minute 150 = .ok (.invokevirtual 140, 3) := by decide +kernel
theorem d_M_minute_153 : decode b_M_minute 153 = .ok (.aload_n 0, 1) := by decide +kernel
theorem d_M_minute_154 : decode b_M_minute 154 = .ok (.getfield 47, 3) := by decide +kernel
theorem d_M_minute_157 : decode b_M_minute 157 = .ok (.bipush 8, 2) := by decide +kernel
theorem d_M_minute_159 : decode b_M_minute 159 = .ok (.dup2, 1) := by decide +kernel
theorem d_M_minute_160 : decode b_M_minute 160 = .ok (.laload, 1) := by decide +kernel
theorem d_M_minute_161 : decode b_M_minute 161 = .ok (.lconst 1, 1) := by decide +kernel
theorem d_M_minute_162 : decode b_M_minute 162 = .ok (.ladd, 1) := by decide +kernel
theorem d_M_minute_163 : decode b_M_minute 163 = .ok (.lastore, 1) := by decide +kernel
theorem d_M_minute_164 : decode b_M_minute 164 = .ok (.return_, 1) := by decide +kernel
theorem d_M_breaks_0 : decode b_M_breaks 0 = .ok (.aload_n 0, 1) := by decide +kernel
theorem d_M_breaks_1 : decode b_M_breaks 1 = .ok (.iload_n 1, 1) := by decide +kernel
theorem d_M_breaks_2 : decode b_M_breaks 2 = .ok (.invokevirtual 107, 3) := by decide +kernel
theorem d_M_breaks_5 : decode b_M_breaks 5 = .ok (.lstore_n 2, 1) := by decide +kernel
theorem d_M_breaks_6 : decode b_M_breaks 6 = .ok (.iconst 0, 1) := by decide +kernel
theorem d_M_breaks_7 : decode b_M_breaks 7 = .ok (.istore 4, 2) := by decide +kernel
theorem d_M_breaks_9 : decode b_M_breaks 9 = .ok (.iload 4, 2) := by decide +kernel
theorem d_M_breaks_11 : decode b_M_breaks 11 = .ok (.iconst 3, 1) := by decide +kernel
theorem d_M_breaks_12 : decode b_M_breaks 12 = .ok (.if_icmp .ge 134, 3) := by decide +kernel
theorem d_M_breaks_15 : decode b_M_breaks 15 = .ok (.aload_n 0, 1) := by decide +kernel
theorem d_M_breaks_16 : decode b_M_breaks 16 = .ok (.getfield 7, 3) := by decide +kernel
theorem d_M_breaks_19 : decode b_M_breaks 19 = .ok (.iconst 3, 1) := by decide +kernel
theorem d_M_breaks_20 : decode b_M_breaks 20 = .ok (.iload_n 1, 1) := by decide +kernel
theorem d_M_breaks_21 : decode b_M_breaks 21 = .ok (.imul, 1) := by decide +kernel
theorem d_M_breaks_22 : decode b_M_breaks 22 = .ok (.iload 4, 2) := by decide +kernel
theorem d_M_breaks_24 : decode b_M_breaks 24 = .ok (.iadd, 1) := by decide +kernel
theorem d_M_breaks_25 : decode b_M_breaks 25 = .ok (.laload, 1) := by decide +kernel
theorem d_M_breaks_26 : decode b_M_breaks 26 = .ok (.aload_n 0, 1) := by decide +kernel
theorem d_M_breaks_27 : decode b_M_breaks 27 = .ok (.iload 4, 2) := by decide +kernel
theorem d_M_breaks_29 : decode b_M_breaks 29 = .ok (.lload_n 2, 1) := by decide +kernel
theorem d_M_breaks_30 : decode b_M_breaks 30 = .ok (.invokevirtual 110, 3) := by decide +kernel
theorem d_M_breaks_33 : decode b_M_breaks 33 = .ok (.invokestatic 114, 3) := by decide +kernel
theorem d_M_breaks_36 : decode b_M_breaks 36 = .ok (.lstore 5, 2) := by decide +kernel
theorem d_M_breaks_38 : decode b_M_breaks 38 = .ok (.aload_n 0, 1) := by decide +kernel
theorem d_M_breaks_39 : decode b_M_breaks 39 = .ok (.getfield 7, 3) := by decide +kernel
theorem d_M_breaks_42 : decode b_M_breaks 42 = .ok (.iconst 3, 1) := by decide +kernel
theorem d_M_breaks_43 : decode b_M_breaks 43 = .ok (.iload_n 1, 1) := by decide +kernel
theorem d_M_breaks_44 : decode b_M_breaks 44 = .ok (.imul, 1) := by decide +kernel
theorem d_M_breaks_45 : decode b_M_breaks 45 = .ok (.iload 4, 2) := by decide +kernel
theorem d_M_breaks_47 : decode b_M_breaks 47 = .ok (.iadd, 1) := by decide +kernel
theorem d_M_breaks_48 : decode b_M_breaks 48 = .ok (.dup2, 1) := by decide +kernel
theorem d_M_breaks_49 : decode b_M_breaks 49 = .ok (.laload, 1) := by decide +kernel
theorem d_M_breaks_50 : decode b_M_breaks 50 = .ok (.lload 5, 2) := by decide +kernel
theorem d_M_breaks_52 : decode b_M_breaks 52 = .ok (.lsub, 1) := by decide +kernel
theorem d_M_breaks_53 : decode b_M_breaks 53 = .ok (.lastore, 1) := by decide +kernel
theorem d_M_breaks_54 : decode b_M_breaks 54 = .ok (.aload_n 0, 1) := by decide +kernel
theorem d_M_breaks_55 : decode b_M_breaks 55 = .ok (.getfield 47, 3) := by decide +kernel
theorem d_M_breaks_58 : decode b_M_breaks 58 = .ok (.iconst 0, 1) := by decide +kernel
theorem d_M_breaks_59 : decode b_M_breaks 59 = .ok (.dup2, 1) := by decide +kernel
theorem d_M_breaks_60 : decode b_M_breaks 60 = .ok (.laload, 1) := by decide +kernel
theorem d_M_breaks_61 : decode b_M_breaks 61 = .ok (.lload 5, 2) := by decide +kernel
theorem d_M_breaks_63 : decode b_M_breaks 63 = .ok (.ladd, 1) := by decide +kernel
theorem d_M_breaks_64 : decode b_M_breaks 64 = .ok (.lastore, 1) := by decide +kernel
theorem d_M_breaks_65 : decode b_M_breaks 65 = .ok (.lload 5, 2) := by decide +kernel
theorem d_M_breaks_67 : decode b_M_breaks 67 = .ok (.aload_n 0, 1) := by decide +kernel
theorem d_M_breaks_68 : decode b_M_breaks 68 = .ok (.getfield 35, 3) := by decide +kernel
theorem d_M_breaks_71 : decode b_M_breaks 71 = .ok (.iload 4, 2) := by decide +kernel
theorem d_M_breaks_73 : decode b_M_breaks 73 = .ok (.iaload, 1) := by decide +kernel
theorem d_M_breaks_74 : decode b_M_breaks 74 = .ok (.i2l, 1) := by decide +kernel
theorem d_M_breaks_75 : decode b_M_breaks 75 = .ok (.lmul, 1) := by decide +kernel
theorem d_M_breaks_76 : decode b_M_breaks 76 = .ok (.lstore 7, 2) := by decide +kernel
theorem d_M_breaks_78 : decode b_M_breaks 78 = .ok (.aload_n 0, 1) := by decide +kernel
theorem d_M_breaks_79 : decode b_M_breaks 79 = .ok (.getfield 16, 3) := by decide +kernel
theorem d_M_breaks_82 : decode b_M_breaks 82 = .ok (.iload_n 1, 1) := by decide +kernel
theorem d_M_breaks_83 : decode b_M_breaks 83 = .ok (.dup2, 1) := by decide +kernel
theorem d_M_breaks_84 : decode b_M_breaks 84 = .ok (.laload, 1) := by decide +kernel
theorem d_M_breaks_85 : decode b_M_breaks 85 = .ok (.lload 7, 2) := by decide +kernel
theorem d_M_breaks_87 : decode b_M_breaks 87 = .ok (.ladd, 1) := by decide +kernel
theorem d_M_breaks_88 : decode b_M_breaks 88 = .ok (.lastore, 1) := by decide +kernel
theorem d_M_breaks_89 : decode b_M_breaks 89 = .ok (.aload_n 0, 1) := by decide +kernel
theorem d_M_breaks_90 : decode b_M_breaks 90 = .ok (.getfield 47, 3) := by decide +kernel
theorem d_M_breaks_93 : decode b_M_breaks 93 = .ok (.iconst 4, 1) := by decide +kernel
theorem d_M_breaks_94 : decode b_M_breaks 94 = .ok (.dup2, 1) := by decide +kernel
theorem d_M_breaks_95 : decode b_M_breaks 95 = .ok (.laload, 1) := by decide +kernel
theorem d_M_breaks_96 : decode b_M_breaks 96 = .ok (.lload 7, 2) := by decide +kernel
theorem d_M_breaks_98 : decode b_M_breaks 98 = .ok (.ladd, 1) := by decide +kernel
theorem d_M_breaks_99 : decode b_M_breaks 99 = .ok (.lastore, 1) := by decide +kernel
theorem d_M_breaks_100 : decode b_M_breaks 100 = .ok (.lload 5, 2) := by decide +kernel
theorem d_M_breaks_102 : decode b_M_breaks 102 = .ok (.aload_n 0, 1) := by decide +kernel
theorem d_M_breaks_103 : decode b_M_breaks 103 = .ok (.getfield 38, 3) := by decide +kernel
theorem d_M_breaks_106 : decode b_M_breaks 106 = .ok (.iload 4, 2) := by decide +kernel
theorem d_M_breaks_108 : decode b_M_breaks 108 = .ok (.iaload, 1) := by decide +kernel
theorem d_M_breaks_109 : decode b_M_breaks 109 = .ok (.i2l, 1) := by decide +kernel
theorem d_M_breaks_110 : decode b_M_breaks 110 = .ok (.lmul, 1) := by decide +kernel
theorem d_M_breaks_111 : decode b_M_breaks 111 = .ok (.ldc2_w 77, 3) := by decide +kernel
theorem d_M_breaks_114 : decode b_M_breaks 114 = .ok (.ldiv, 1) := by decide +kernel
theorem d_M_breaks_115 : decode b_M_breaks 115 = .ok (.lstore 9, 2) := by decide +kernel
theorem d_M_breaks_117 : decode b_M_breaks 117 = .ok (.aload_n 0, 1) := by decide +kernel
theorem d_M_breaks_118 : decode b_M_breaks 118 = .ok (.getfield 13, 3) := by decide +kernel
theorem d_M_breaks_121 : decode b_M_breaks 121 = .ok (.iload_n 1, 1) := by decide +kernel
theorem d_M_breaks_122 : decode b_M_breaks 122 = .ok (.dup2, 1) := by decide +kernel
theorem d_M_breaks_123 : decode b_M_breaks 123 = .ok (.laload, 1) := by decide +kernel
theorem d_M_breaks_124 : decode b_M_breaks 124 = .ok (.lload 9, 2) := by decide +kernel
theorem d_M_breaks_126 : decode b_M_breaks 126 = .ok (.ladd, 1) := by decide +kernel
theorem d_M_breaks_127 : decode b_M_breaks 127 = .ok (.lastore, 1) := by decide +kernel
theorem d_M_breaks_128 : decode b_M_breaks 128 = .ok (.aload_n 0, 1) := by decide +kernel
theorem d_M_breaks_129 : decode b_M_breaks 129 = .ok (.getfield 47, 3) := by decide +kernel
theorem d_M_breaks_132 : decode b_M_breaks 132 = .ok (.bipush 7, 2) := by decide +kernel
theorem d_M_breaks_134 : decode b_M_breaks 134 = .ok (.dup2, 1) := by decide +kernel
theorem d_M_breaks_135 : decode b_M_breaks 135 = .ok (.laload, 1) := by decide +kernel
theorem d_M_breaks_136 : decode b_M_breaks 136 = .ok (.lload 9, 2) := by decide +kernel
theorem d_M_breaks_138 : decode b_M_breaks 138 = .ok (.ladd, 1) := by decide +kernel
theorem d_M_breaks_139 : decode b_M_breaks 139 = .ok (.lastore, 1) := by decide +kernel
theorem d_M_breaks_140 : decode b_M_breaks 140 = .ok (.iinc 4 1, 3) := by decide +kernel
theorem d_M_breaks_143 : decode b_M_breaks 143 = .ok (.goto (-134), 3) := by decide +kernel
theorem d_M_breaks_146 : decode b_M_breaks 146 = .ok (.return_, 1) := by decide +kernel
theorem d_M_rateOf_0 : decode b_M_rateOf 0 = .ok (.lconst 0, 1) := by decide +kernel
theorem d_M_rateOf_1 : decode b_M_rateOf 1 = .ok (.lstore 4, 2) := by decide +kernel
theorem d_M_rateOf_3 : decode b_M_rateOf 3 = .ok (.iconst 4, 1) := by decide +kernel
theorem d_M_rateOf_4 : decode b_M_rateOf 4 = .ok (.iload_n 1, 1) := by decide +kernel
theorem d_M_rateOf_5 : decode b_M_rateOf 5 = .ok (.imul, 1) := by decide +kernel
theorem d_M_rateOf_6 : decode b_M_rateOf 6 = .ok (.istore 6, 2) := by decide +kernel
theorem d_M_rateOf_8 : decode b_M_rateOf 8 = .ok (.iload 6, 2) := by decide +kernel
theorem d_M_rateOf_10 : decode b_M_rateOf 10 = .ok (.iconst 4, 1) := by decide +kernel
theorem d_M_rateOf_11 : decode b_M_rateOf 11 = .ok (.iload_n 1, 1) := by decide +kernel
theorem d_M_rateOf_12 : decode b_M_rateOf 12 = .ok (.imul, 1) := by decide +kernel
theorem d_M_rateOf_13 : decode b_M_rateOf 13 = .ok (.aload_n 0, 1) := by decide +kernel
theorem d_M_rateOf_14 : decode b_M_rateOf 14 = .ok (.getfield 25, 3) := by decide +kernel
theorem d_M_rateOf_17 : decode b_M_rateOf 17 = .ok (.iload_n 1, 1) := by decide +kernel
theorem d_M_rateOf_18 : decode b_M_rateOf 18 = .ok (.iaload, 1) := by decide +kernel
theorem d_M_rateOf_19 : decode b_M_rateOf 19 = .ok (.iadd, 1) := by decide +kernel
theorem d_M_rateOf_20 : decode b_M_rateOf 20 = .ok (.if_icmp .ge 37, 3) := by decide +kernel
theorem d_M_rateOf_23 : decode b_M_rateOf 23 = .ok (.aload_n 0, 1) := by decide +kernel
theorem d_M_rateOf_24 : decode b_M_rateOf 24 = .ok (.getfield 29, 3) := by decide +kernel
theorem d_M_rateOf_27 : decode b_M_rateOf 27 = .ok (.iload 6, 2) := by decide +kernel
theorem d_M_rateOf_29 : decode b_M_rateOf 29 = .ok (.iaload, 1) := by decide +kernel
theorem d_M_rateOf_30 : decode b_M_rateOf 30 = .ok (.i2l, 1) := by decide +kernel
theorem d_M_rateOf_31 : decode b_M_rateOf 31 = .ok (.lload_n 2, 1) := by decide +kernel
theorem d_M_rateOf_32 : decode b_M_rateOf 32 = .ok (.lcmp, 1) := by decide +kernel
theorem d_M_rateOf_33 : decode b_M_rateOf 33 = .ok (.ifCond .gt 14, 3) := by decide +kernel
theorem d_M_rateOf_36 : decode b_M_rateOf 36 = .ok (.aload_n 0, 1) := by decide +kernel
theorem d_M_rateOf_37 : decode b_M_rateOf 37 = .ok (.getfield 32, 3) := by decide +kernel
theorem d_M_rateOf_40 : decode b_M_rateOf 40 = .ok (.iload 6, 2) := by decide +kernel
theorem d_M_rateOf_42 : decode b_M_rateOf 42 = .ok (.iaload, 1) := by decide +kernel
theorem d_M_rateOf_43 : decode b_M_rateOf 43 = .ok (.i2l, 1) := by decide +kernel
theorem d_M_rateOf_44 : decode b_M_rateOf 44 = .ok (.goto 5, 3) := by decide +kernel
theorem d_M_rateOf_47 : decode b_M_rateOf 47 = .ok (.lload 4, 2) := by decide +kernel
theorem d_M_rateOf_49 : decode b_M_rateOf 49 = .ok (.lstore 4, 2) := by decide +kernel
theorem d_M_rateOf_51 : decode b_M_rateOf 51 = .ok (.iinc 6 1, 3) := by decide +kernel
theorem d_M_rateOf_54 : decode b_M_rateOf 54 = .ok (.goto (-46), 3) := by decide +kernel
theorem d_M_rateOf_57 : decode b_M_rateOf 57 = .ok (.lload 4, 2) := by decide +kernel
theorem d_M_rateOf_59 : decode b_M_rateOf 59 = .ok (.lreturn, 1) := by decide +kernel
theorem d_M_partOf_0 : decode b_M_partOf 0 = .ok (.lload_n 0, 1) := by decide +kernel
theorem d_M_partOf_1 : decode b_M_partOf 1 = .ok (.ldc2_w 67, 3) := by decide +kernel
theorem d_M_partOf_4 : decode b_M_partOf 4 = .ok (.ldiv, 1) := by decide +kernel
theorem d_M_partOf_5 : decode b_M_partOf 5 = .ok (.lload_n 2, 1) := by decide +kernel
theorem d_M_partOf_6 : decode b_M_partOf 6 = .ok (.lmul, 1) := by decide +kernel
theorem d_M_partOf_7 : decode b_M_partOf 7 = .ok (.lload_n 0, 1) := by decide +kernel
theorem d_M_partOf_8 : decode b_M_partOf 8 = .ok (.ldc2_w 67, 3) := by decide +kernel
theorem d_M_partOf_11 : decode b_M_partOf 11 = .ok (.lrem, 1) := by decide +kernel
theorem d_M_partOf_12 : decode b_M_partOf 12 = .ok (.lload_n 2, 1) := by decide +kernel
theorem d_M_partOf_13 : decode b_M_partOf 13 = .ok (.lmul, 1) := by decide +kernel
theorem d_M_partOf_14 : decode b_M_partOf 14 = .ok (.ldc2_w 67, 3) := by decide +kernel
theorem d_M_partOf_17 : decode b_M_partOf 17 = .ok (.ldiv, 1) := by decide +kernel
theorem d_M_partOf_18 : decode b_M_partOf 18 = .ok (.ladd, 1) := by decide +kernel
theorem d_M_partOf_19 : decode b_M_partOf 19 = .ok (.lreturn, 1) := by decide +kernel
theorem d_M_loses_0 : decode b_M_loses 0 = .ok (.aload_n 0, 1) := by decide +kernel
theorem d_M_loses_1 : decode b_M_loses 1 = .ok (.getfield 16, 3) := by decide +kernel
theorem d_M_loses_4 : decode b_M_loses 4 = .ok (.iload_n 1, 1) := by decide +kernel
theorem d_M_loses_5 : decode b_M_loses 5 = .ok (.laload, 1) := by decide +kernel
theorem d_M_loses_6 : decode b_M_loses 6 = .ok (.aload_n 0, 1) := by decide +kernel
theorem d_M_loses_7 : decode b_M_loses 7 = .ok (.getfield 82, 3) := by decide +kernel
theorem d_M_loses_10 : decode b_M_loses 10 = .ok (.i2l, 1) := by decide +kernel
theorem d_M_loses_11 : decode b_M_loses 11 = .ok (.invokestatic 114, 3) := by decide +kernel
theorem d_M_loses_14 : decode b_M_loses 14 = .ok (.lstore_n 2, 1) := by decide +kernel
theorem d_M_loses_15 : decode b_M_loses 15 = .ok (.aload_n 0, 1) := by decide +kernel
theorem d_M_loses_16 : decode b_M_loses 16 = .ok (.getfield 16, 3) := by decide +kernel
theorem d_M_loses_19 : decode b_M_loses 19 = .ok (.iload_n 1, 1) := by decide +kernel
theorem d_M_loses_20 : decode b_M_loses 20 = .ok (.dup2, 1) := by decide +kernel
theorem d_M_loses_21 : decode b_M_loses 21 = .ok (.laload, 1) := by decide +kernel
theorem d_M_loses_22 : decode b_M_loses 22 = .ok (.lload_n 2, 1) := by decide +kernel
theorem d_M_loses_23 : decode b_M_loses 23 = .ok (.lsub, 1) := by decide +kernel
theorem d_M_loses_24 : decode b_M_loses 24 = .ok (.lastore, 1) := by decide +kernel
theorem d_M_loses_25 : decode b_M_loses 25 = .ok (.aload_n 0, 1) := by decide +kernel
theorem d_M_loses_26 : decode b_M_loses 26 = .ok (.getfield 47, 3) := by decide +kernel
theorem d_M_loses_29 : decode b_M_loses 29 = .ok (.iconst 5, 1) := by decide +kernel
theorem d_M_loses_30 : decode b_M_loses 30 = .ok (.dup2, 1) := by decide +kernel
theorem d_M_loses_31 : decode b_M_loses 31 = .ok (.laload, 1) := by decide +kernel
theorem d_M_loses_32 : decode b_M_loses 32 = .ok (.lload_n 2, 1) := by decide +kernel
theorem d_M_loses_33 : decode b_M_loses 33 = .ok (.ladd, 1) := by decide +kernel
theorem d_M_loses_34 : decode b_M_loses 34 = .ok (.lastore, 1) := by decide +kernel
theorem d_M_loses_35 : decode b_M_loses 35 = .ok (.aload_n 0, 1) := by decide +kernel
theorem d_M_loses_36 : decode b_M_loses 36 = .ok (.getfield 13, 3) := by decide +kernel
theorem d_M_loses_39 : decode b_M_loses 39 = .ok (.iload_n 1, 1) := by decide +kernel
theorem d_M_loses_40 : decode b_M_loses 40 = .ok (.laload, 1) := by decide +kernel
theorem d_M_loses_41 : decode b_M_loses 41 = .ok (.aload_n 0, 1) := by decide +kernel
theorem d_M_loses_42 : decode b_M_loses 42 = .ok (.getfield 118, 3) := by decide +kernel
theorem d_M_loses_45 : decode b_M_loses 45 = .ok (.i2l, 1) := by decide +kernel
theorem d_M_loses_46 : decode b_M_loses 46 = .ok (.invokestatic 114, 3) := by decide +kernel
theorem d_M_loses_49 : decode b_M_loses 49 = .ok (.lstore 4, 2) := by decide +kernel
theorem d_M_loses_51 : decode b_M_loses 51 = .ok (.aload_n 0, 1) := by decide +kernel
theorem d_M_loses_52 : decode b_M_loses 52 = .ok (.getfield 13, 3) := by decide +kernel
theorem d_M_loses_55 : decode b_M_loses 55 = .ok (.iload_n 1, 1) := by decide +kernel
theorem d_M_loses_56 : decode b_M_loses 56 = .ok (.dup2, 1) := by decide +kernel
theorem d_M_loses_57 : decode b_M_loses 57 = .ok (.laload, 1) := by decide +kernel
theorem d_M_loses_58 : decode b_M_loses 58 = .ok (.lload 4, 2) := by decide +kernel
theorem d_M_loses_60 : decode b_M_loses 60 = .ok (.lsub, 1) := by decide +kernel
theorem d_M_loses_61 : decode b_M_loses 61 = .ok (.lastore, 1) := by decide +kernel
theorem d_M_loses_62 : decode b_M_loses 62 = .ok (.aload_n 0, 1) := by decide +kernel
theorem d_M_loses_63 : decode b_M_loses 63 = .ok (.getfield 47, 3) := by decide +kernel
theorem d_M_loses_66 : decode b_M_loses 66 = .ok (.iconst 1, 1) := by decide +kernel
theorem d_M_loses_67 : decode b_M_loses 67 = .ok (.dup2, 1) := by decide +kernel
theorem d_M_loses_68 : decode b_M_loses 68 = .ok (.laload, 1) := by decide +kernel
theorem d_M_loses_69 : decode b_M_loses 69 = .ok (.lload 4, 2) := by decide +kernel
theorem d_M_loses_71 : decode b_M_loses 71 = .ok (.ladd, 1) := by decide +kernel
theorem d_M_loses_72 : decode b_M_loses 72 = .ok (.lastore, 1) := by decide +kernel
theorem d_M_loses_73 : decode b_M_loses 73 = .ok (.ldc2_w 121, 3) := by decide +kernel
theorem d_M_loses_76 : decode b_M_loses 76 = .ok (.lload 4, 2) := by decide +kernel
theorem d_M_loses_78 : decode b_M_loses 78 = .ok (.lmul, 1) := by decide +kernel
theorem d_M_loses_79 : decode b_M_loses 79 = .ok (.aload_n 0, 1) := by decide +kernel
theorem d_M_loses_80 : decode b_M_loses 80 = .ok (.getfield 16, 3) := by decide +kernel
theorem d_M_loses_83 : decode b_M_loses 83 = .ok (.iload_n 1, 1) := by decide +kernel
theorem d_M_loses_84 : decode b_M_loses 84 = .ok (.laload, 1) := by decide +kernel
theorem d_M_loses_85 : decode b_M_loses 85 = .ok (.lcmp, 1) := by decide +kernel
theorem d_M_loses_86 : decode b_M_loses 86 = .ok (.ifCond .ge 12, 3) := by decide +kernel
theorem d_M_loses_89 : decode b_M_loses 89 = .ok (.ldc2_w 121, 3) := by decide +kernel
theorem d_M_loses_92 : decode b_M_loses 92 = .ok (.lload 4, 2) := by decide +kernel
theorem d_M_loses_94 : decode b_M_loses 94 = .ok (.lmul, 1) := by decide +kernel
theorem d_M_loses_95 : decode b_M_loses 95 = .ok (.goto 9, 3) := by decide +kernel
theorem d_M_loses_98 : decode b_M_loses 98 = .ok (.aload_n 0, 1) := by decide +kernel
theorem d_M_loses_99 : decode b_M_loses 99 = .ok (.getfield 16, 3) := by decide +kernel
theorem d_M_loses_102 : decode b_M_loses 102 = .ok (.iload_n 1, 1) := by decide +kernel
theorem d_M_loses_103 : decode b_M_loses 103 = .ok (.laload, 1) := by decide +kernel
theorem d_M_loses_104 : decode b_M_loses 104 = .ok (.lstore 6, 2) := by decide +kernel
theorem d_M_loses_106 : decode b_M_loses 106 = .ok (.aload_n 0, 1) := by decide +kernel
theorem d_M_loses_107 : decode b_M_loses 107 = .ok (.getfield 16, 3) := by decide +kernel
theorem d_M_loses_110 : decode b_M_loses 110 = .ok (.iload_n 1, 1) := by decide +kernel
theorem d_M_loses_111 : decode b_M_loses 111 = .ok (.dup2, 1) := by decide +kernel
theorem d_M_loses_112 : decode b_M_loses 112 = .ok (.laload, 1) := by decide +kernel
theorem d_M_loses_113 : decode b_M_loses 113 = .ok (.lload 6, 2) := by decide +kernel
theorem d_M_loses_115 : decode b_M_loses 115 = .ok (.lsub, 1) := by decide +kernel
theorem d_M_loses_116 : decode b_M_loses 116 = .ok (.lastore, 1) := by decide +kernel
theorem d_M_loses_117 : decode b_M_loses 117 = .ok (.aload_n 0, 1) := by decide +kernel
theorem d_M_loses_118 : decode b_M_loses 118 = .ok (.getfield 47, 3) := by decide +kernel
theorem d_M_loses_121 : decode b_M_loses 121 = .ok (.bipush 6, 2) := by decide +kernel
theorem d_M_loses_123 : decode b_M_loses 123 = .ok (.dup2, 1) := by decide +kernel
theorem d_M_loses_124 : decode b_M_loses 124 = .ok (.laload, 1) := by decide +kernel
theorem d_M_loses_125 : decode b_M_loses 125 = .ok (.lload 6, 2) := by decide +kernel
theorem d_M_loses_127 : decode b_M_loses 127 = .ok (.ladd, 1) := by decide +kernel
theorem d_M_loses_128 : decode b_M_loses 128 = .ok (.lastore, 1) := by decide +kernel
theorem d_M_loses_129 : decode b_M_loses 129 = .ok (.return_, 1) := by decide +kernel
theorem d_M_setFan_0 : decode b_M_setFan 0 = .ok (.aload_n 0, 1) := by decide +kernel
theorem d_M_setFan_1 : decode b_M_setFan 1 = .ok (.getfield 87, 3) := by decide +kernel
theorem d_M_setFan_4 : decode b_M_setFan 4 = .ok (.ifCond .ne 4, 3) := by decide +kernel
theorem d_M_setFan_7 : decode b_M_setFan 7 = .ok (.return_, 1) := by decide +kernel
theorem d_M_setFan_8 : decode b_M_setFan 8 = .ok (.aload_n 0, 1) := by decide +kernel
theorem d_M_setFan_9 : decode b_M_setFan 9 = .ok (.invokevirtual 123, 3) := by decide +kernel
theorem d_M_setFan_12 : decode b_M_setFan 12 = .ok (.aload_n 0, 1) := by decide +kernel
theorem d_M_setFan_13 : decode b_M_setFan 13 = .ok (.getfield 91, 3) := by decide +kernel
theorem d_M_setFan_16 : decode b_M_setFan 16 = .ok (.i2l, 1) := by decide +kernel
theorem d_M_setFan_17 : decode b_M_setFan 17 = .ok (.lsub, 1) := by decide +kernel
theorem d_M_setFan_18 : decode b_M_setFan 18 = .ok (.lstore_n 1, 1) := by decide +kernel
theorem d_M_setFan_19 : decode b_M_setFan 19 = .ok (.aload_n 0, 1) := by decide +kernel
theorem d_M_setFan_20 : decode b_M_setFan 20 = .ok (.aload_n 0, 1) := by decide +kernel
theorem d_M_setFan_21 : decode b_M_setFan 21 = .ok (.getfield 100, 3) := by decide +kernel
theorem d_M_setFan_24 : decode b_M_setFan 24 = .ok (.lload_n 1, 1) := by decide +kernel
theorem d_M_setFan_25 : decode b_M_setFan 25 = .ok (.ladd, 1) := by decide +kernel
theorem d_M_setFan_26 : decode b_M_setFan 26 = .ok (.ldc2_w 127, 3) := by decide +kernel
theorem d_M_setFan_29 : decode b_M_setFan 29 = .ok (.ldc2_w 41, 3) := by decide +kernel
theorem d_M_setFan_32 : decode b_M_setFan 32 = .ok (.invokestatic 129, 3) := by decide +kernel
theorem d_M_setFan_35 : decode b_M_setFan 35 = .ok (.putfield 100, 3) := by decide +kernel
theorem d_M_setFan_38 : decode b_M_setFan 38 = .ok (.aload_n 0, 1) := by decide +kernel
theorem d_M_setFan_39 : decode b_M_setFan 39 = .ok (.getfield 94, 3) := by decide +kernel
theorem d_M_setFan_42 : decode b_M_setFan 42 = .ok (.i2l, 1) := by decide +kernel
theorem d_M_setFan_43 : decode b_M_setFan 43 = .ok (.lload_n 1, 1) := by decide +kernel
theorem d_M_setFan_44 : decode b_M_setFan 44 = .ok (.lmul, 1) := by decide +kernel
theorem d_M_setFan_45 : decode b_M_setFan 45 = .ok (.aload_n 0, 1) := by decide +kernel
theorem d_M_setFan_46 : decode b_M_setFan 46 = .ok (.getfield 97, 3) := by decide +kernel
theorem d_M_setFan_49 : decode b_M_setFan 49 = .ok (.i2l, 1) := by decide +kernel
theorem d_M_setFan_50 : decode b_M_setFan 50 = .ok (.aload_n 0, 1) := by decide +kernel
theorem d_M_setFan_51 : decode b_M_setFan 51 = .ok (.getfield 100, 3) := by decide +kernel
theorem d_M_setFan_54 : decode b_M_setFan 54 = .ok (.lmul, 1) := by decide +kernel
theorem d_M_setFan_55 : decode b_M_setFan 55 = .ok (.ladd, 1) := by decide +kernel
theorem d_M_setFan_56 : decode b_M_setFan 56 = .ok (.lstore_n 3, 1) := by decide +kernel
theorem d_M_setFan_57 : decode b_M_setFan 57 = .ok (.lload_n 3, 1) := by decide +kernel
theorem d_M_setFan_58 : decode b_M_setFan 58 = .ok (.ldc2_w 77, 3) := by decide +kernel
theorem d_M_setFan_61 : decode b_M_setFan 61 = .ok (.ldiv, 1) := by decide +kernel
theorem d_M_setFan_62 : decode b_M_setFan 62 = .ok (.lload_n 3, 1) := by decide +kernel
theorem d_M_setFan_63 : decode b_M_setFan 63 = .ok (.ldc2_w 77, 3) := by decide +kernel
theorem d_M_setFan_66 : decode b_M_setFan 66 = .ok (.lrem, 1) := by decide +kernel
theorem d_M_setFan_67 : decode b_M_setFan 67 = .ok (.lconst 0, 1) := by decide +kernel
theorem d_M_setFan_68 : decode b_M_setFan 68 = .ok (.lcmp, 1) := by decide +kernel
theorem d_M_setFan_69 : decode b_M_setFan 69 = .ok (.ifCond .ge 7, 3) := by decide +kernel
theorem d_M_setFan_72 : decode b_M_setFan 72 = .ok (.lconst 1, 1) := by decide +kernel
theorem d_M_setFan_73 : decode b_M_setFan 73 = .ok (.goto 4, 3) := by decide +kernel
theorem d_M_setFan_76 : decode b_M_setFan 76 = .ok (.lconst 0, 1) := by decide +kernel
theorem d_M_setFan_77 : decode b_M_setFan 77 = .ok (.lsub, 1) := by decide +kernel
theorem d_M_setFan_78 : decode b_M_setFan 78 = .ok (.lstore 5, 2) := by decide +kernel
theorem d_M_setFan_80 : decode b_M_setFan 80 = .ok (.aload_n 0, 1) := by decide +kernel
theorem d_M_setFan_81 : decode b_M_setFan 81 = .ok (.lload 5, 2) := by decide +kernel
theorem d_M_setFan_83 : decode b_M_setFan 83 = .ok (.lconst 0, 1) := by decide +kernel
theorem d_M_setFan_84 : decode b_M_setFan 84 = .ok (.ldc2_w 77, 3) := by decide +kernel
theorem d_M_setFan_87 : decode b_M_setFan 87 = .ok (.invokestatic 129, 3) := by decide +kernel
theorem d_M_setFan_90 : decode b_M_setFan 90 = .ok (.l2i, 1) := by decide +kernel
theorem d_M_setFan_91 : decode b_M_setFan 91 = .ok (.putfield 118, 3) := by decide +kernel
theorem d_M_setFan_94 : decode b_M_setFan 94 = .ok (.return_, 1) := by decide +kernel
theorem d_M_cut_0 : decode b_M_cut 0 = .ok (.lload_n 0, 1) := by decide +kernel
theorem d_M_cut_1 : decode b_M_cut 1 = .ok (.lload_n 2, 1) := by decide +kernel
theorem d_M_cut_2 : decode b_M_cut 2 = .ok (.lcmp, 1) := by decide +kernel
theorem d_M_cut_3 : decode b_M_cut 3 = .ok (.ifCond .ge 7, 3) := by decide +kernel
theorem d_M_cut_6 : decode b_M_cut 6 = .ok (.lload_n 2, 1) := by decide +kernel
theorem d_M_cut_7 : decode b_M_cut 7 = .ok (.goto 16, 3) := by decide +kernel
theorem d_M_cut_10 : decode b_M_cut 10 = .ok (.lload_n 0, 1) := by decide +kernel
theorem d_M_cut_11 : decode b_M_cut 11 = .ok (.lload 4, 2) := by decide +kernel
theorem d_M_cut_13 : decode b_M_cut 13 = .ok (.lcmp, 1) := by decide +kernel
theorem d_M_cut_14 : decode b_M_cut 14 = .ok (.ifCond .le 8, 3) := by decide +kernel
theorem d_M_cut_17 : decode b_M_cut 17 = .ok (.lload 4, 2) := by decide +kernel
theorem d_M_cut_19 : decode b_M_cut 19 = .ok (.goto 4, 3) := by decide +kernel
theorem d_M_cut_22 : decode b_M_cut 22 = .ok (.lload_n 0, 1) := by decide +kernel
theorem d_M_cut_23 : decode b_M_cut 23 = .ok (.lreturn, 1) := by decide +kernel
theorem d_M_left_0 : decode b_M_left 0 = .ok (.aload_n 0, 1) := by decide +kernel
theorem d_M_left_1 : decode b_M_left 1 = .ok (.iload_n 1, 1) := by decide +kernel
theorem d_M_left_2 : decode b_M_left 2 = .ok (.invokevirtual 60, 3) := by decide +kernel
theorem d_M_left_5 : decode b_M_left 5 = .ok (.ifCond .eq 23, 3) := by decide +kernel
theorem d_M_left_8 : decode b_M_left 8 = .ok (.iload_n 2, 1) := by decide +kernel
theorem d_M_left_9 : decode b_M_left 9 = .ok (.invokestatic 64, 3) := by decide +kernel
theorem d_M_left_12 : decode b_M_left 12 = .ok (.ifCond .eq 16, 3) := by decide +kernel
theorem d_M_left_15 : decode b_M_left 15 = .ok (.aload_n 0, 1) := by decide +kernel
theorem d_M_left_16 : decode b_M_left 16 = .ok (.getfield 7, 3) := by decide +kernel
theorem d_M_left_19 : decode b_M_left 19 = .ok (.iconst 3, 1) := by decide +kernel
theorem d_M_left_20 : decode b_M_left 20 = .ok (.iload_n 1, 1) := by decide +kernel
theorem d_M_left_21 : decode b_M_left 21 = .ok (.imul, 1) := by decide +kernel
theorem d_M_left_22 : decode b_M_left 22 = .ok (.iload_n 2, 1) := by decide +kernel
theorem d_M_left_23 : decode b_M_left 23 = .ok (.iadd, 1) := by decide +kernel
theorem d_M_left_24 : decode b_M_left 24 = .ok (.laload, 1) := by decide +kernel
theorem d_M_left_25 : decode b_M_left 25 = .ok (.goto 6, 3) := by decide +kernel
theorem d_M_left_28 : decode b_M_left 28 = .ok (.ldc2_w 148, 3) := by decide +kernel
theorem d_M_left_31 : decode b_M_left 31 = .ok (.lreturn, 1) := by decide +kernel
theorem d_M_wet_0 : decode b_M_wet 0 = .ok (.aload_n 0, 1) := by decide +kernel
theorem d_M_wet_1 : decode b_M_wet 1 = .ok (.iload_n 1, 1) := by decide +kernel
theorem d_M_wet_2 : decode b_M_wet 2 = .ok (.invokevirtual 60, 3) := by decide +kernel
theorem d_M_wet_5 : decode b_M_wet 5 = .ok (.ifCond .eq 12, 3) := by decide +kernel
theorem d_M_wet_8 : decode b_M_wet 8 = .ok (.aload_n 0, 1) := by decide +kernel
theorem d_M_wet_9 : decode b_M_wet 9 = .ok (.getfield 13, 3) := by decide +kernel
theorem d_M_wet_12 : decode b_M_wet 12 = .ok (.iload_n 1, 1) := by decide +kernel
theorem d_M_wet_13 : decode b_M_wet 13 = .ok (.laload, 1) := by decide +kernel
theorem d_M_wet_14 : decode b_M_wet 14 = .ok (.goto 6, 3) := by decide +kernel
theorem d_M_wet_17 : decode b_M_wet 17 = .ok (.ldc2_w 148, 3) := by decide +kernel
theorem d_M_wet_20 : decode b_M_wet 20 = .ok (.lreturn, 1) := by decide +kernel
theorem d_M_warmth_0 : decode b_M_warmth 0 = .ok (.aload_n 0, 1) := by decide +kernel
theorem d_M_warmth_1 : decode b_M_warmth 1 = .ok (.iload_n 1, 1) := by decide +kernel
theorem d_M_warmth_2 : decode b_M_warmth 2 = .ok (.invokevirtual 60, 3) := by decide +kernel
theorem d_M_warmth_5 : decode b_M_warmth 5 = .ok (.ifCond .eq 11, 3) := by decide +kernel
theorem d_M_warmth_8 : decode b_M_warmth 8 = .ok (.aload_n 0, 1) := by decide +kernel
theorem d_M_warmth_9 : decode b_M_warmth 9 = .ok (.iload_n 1, 1) := by decide +kernel
theorem d_M_warmth_10 : decode b_M_warmth 10 = .ok (.invokevirtual 107, 3) := by decide +kernel
theorem d_M_warmth_13 : decode b_M_warmth 13 = .ok (.goto 6, 3) := by decide +kernel
theorem d_M_warmth_16 : decode b_M_warmth 16 = .ok (.ldc2_w 148, 3) := by decide +kernel
theorem d_M_warmth_19 : decode b_M_warmth 19 = .ok (.lreturn, 1) := by decide +kernel
theorem d_M_air_0 : decode b_M_air 0 = .ok (.aload_n 0, 1) := by decide +kernel
theorem d_M_air_1 : decode b_M_air 1 = .ok (.getfield 118, 3) := by decide +kernel
theorem d_M_air_4 : decode b_M_air 4 = .ok (.ireturn, 1) := by decide +kernel
theorem d_M_turn_0 : decode b_M_turn 0 = .ok (.iconst 0, 1) := by decide +kernel
theorem d_M_turn_1 : decode b_M_turn 1 = .ok (.istore_n 1, 1) := by decide +kernel
theorem d_M_turn_2 : decode b_M_turn 2 = .ok (.iload_n 1, 1) := by decide +kernel
theorem d_M_turn_3 : decode b_M_turn 3 = .ok (.iconst 3, 1) := by decide +kernel
theorem d_M_turn_4 : decode b_M_turn 4 = .ok (.if_icmp .ge 79, 3) := by decide +kernel
theorem d_M_turn_7 : decode b_M_turn 7 = .ok (.lconst 0, 1) := by decide +kernel
theorem d_M_turn_8 : decode b_M_turn 8 = .ok (.lstore_n 2, 1) := by decide +kernel
theorem d_M_turn_9 : decode b_M_turn 9 = .ok (.iconst 0, 1) := by decide +kernel
theorem d_M_turn_10 : decode b_M_turn 10 = .ok (.istore 4, 2) := by decide +kernel
theorem d_M_turn_12 : decode b_M_turn 12 = .ok (.iload 4, 2) := by decide +kernel
theorem d_M_turn_14 : decode b_M_turn 14 = .ok (.aload_n 0, 1) := by decide +kernel
theorem d_M_turn_15 : decode b_M_turn 15 = .ok (.getfield 56, 3) := by decide +kernel
theorem d_M_turn_18 : decode b_M_turn 18 = .ok (.if_icmp .ge 23, 3) := by decide +kernel
theorem d_M_turn_21 : decode b_M_turn 21 = .ok (.lload_n 2, 1) := by decide +kernel
theorem d_M_turn_22 : decode b_M_turn 22 = .ok (.aload_n 0, 1) := by decide +kernel
theorem d_M_turn_23 : decode b_M_turn 23 = .ok (.getfield 7, 3) := by decide +kernel
theorem d_M_turn_26 : decode b_M_turn 26 = .ok (.iconst 3, 1) := by decide +kernel
theorem d_M_turn_27 : decode b_M_turn 27 = .ok (.iload 4, 2) := by decide +kernel
theorem d_M_turn_29 : decode b_M_turn 29 = .ok (.imul, 1) := by decide +kernel
theorem d_M_turn_30 : decode b_M_turn 30 = .ok (.iload_n 1, 1) := by decide +kernel
theorem d_M_turn_31 : decode b_M_turn 31 = .ok (.iadd, 1) := by decide +kernel
theorem d_M_turn_32 : decode b_M_turn 32 = .ok (.laload, 1) := by decide +kernel
theorem d_M_turn_33 : decode b_M_turn 33 = .ok (.ladd, 1) := by decide +kernel
theorem d_M_turn_34 : decode b_M_turn 34 = .ok (.lstore_n 2, 1) := by decide +kernel
theorem d_M_turn_35 : decode b_M_turn 35 = .ok (.iinc 4 1, 3) := by decide +kernel
theorem d_M_turn_38 : decode b_M_turn 38 = .ok (.goto (-26), 3) := by decide +kernel
theorem d_M_turn_41 : decode b_M_turn 41 = .ok (.iconst 0, 1) := by decide +kernel
theorem d_M_turn_42 : decode b_M_turn 42 = .ok (.istore 4, 2) := by decide +kernel
theorem d_M_turn_44 : decode b_M_turn 44 = .ok (.iload 4, 2) := by decide +kernel
theorem d_M_turn_46 : decode b_M_turn 46 = .ok (.aload_n 0, 1) := by decide +kernel
theorem d_M_turn_47 : decode b_M_turn 47 = .ok (.getfield 56, 3) := by decide +kernel
theorem d_M_turn_50 : decode b_M_turn 50 = .ok (.if_icmp .ge 27, 3) := by decide +kernel
theorem d_M_turn_53 : decode b_M_turn 53 = .ok (.aload_n 0, 1) := by decide +kernel
theorem d_M_turn_54 : decode b_M_turn 54 = .ok (.getfield 7, 3) := by decide +kernel
theorem d_M_turn_57 : decode b_M_turn 57 = .ok (.iconst 3, 1) := by decide +kernel
theorem d_M_turn_58 : decode b_M_turn 58 = .ok (.iload 4, 2) := by decide +kernel
theorem d_M_turn_60 : decode b_M_turn 60 = .ok (.imul, 1) := by decide +kernel
theorem d_M_turn_61 : decode b_M_turn 61 = .ok (.iload_n 1, 1) := by decide +kernel
theorem d_M_turn_62 : decode b_M_turn 62 = .ok (.iadd, 1) := by decide +kernel
theorem d_M_turn_63 : decode b_M_turn 63 = .ok (.aload_n 0, 1) := by decide +kernel
theorem d_M_turn_64 : decode b_M_turn 64 = .ok (.lload_n 2, 1) := by decide +kernel
theorem d_M_turn_65 : decode b_M_turn 65 = .ok (.iload 4, 2) := by decide +kernel
theorem d_M_turn_67 : decode b_M_turn 67 = .ok (.invokevirtual 150, 3) := by decide +kernel
theorem d_M_turn_70 : decode b_M_turn 70 = .ok (.lastore, 1) := by decide +kernel
theorem d_M_turn_71 : decode b_M_turn 71 = .ok (.iinc 4 1, 3) := by decide +kernel
theorem d_M_turn_74 : decode b_M_turn 74 = .ok (.goto (-30), 3) := by decide +kernel
theorem d_M_turn_77 : decode b_M_turn 77 = .ok (.iinc 1 1, 3) := by decide +kernel
theorem d_M_turn_80 : decode b_M_turn 80 = .ok (.goto (-78), 3) := by decide +kernel
theorem d_M_turn_83 : decode b_M_turn 83 = .ok (.lconst 0, 1) := by decide +kernel
theorem d_M_turn_84 : decode b_M_turn 84 = .ok (.lstore_n 1, 1) := by decide +kernel
theorem d_M_turn_85 : decode b_M_turn 85 = .ok (.lconst 0, 1) := by decide +kernel
theorem d_M_turn_86 : decode b_M_turn 86 = .ok (.lstore_n 3, 1) := by decide +kernel
theorem d_M_turn_87 : decode b_M_turn 87 = .ok (.iconst 0, 1) := by decide +kernel
theorem d_M_turn_88 : decode b_M_turn 88 = .ok (.istore 5, 2) := by decide +kernel
theorem d_M_turn_90 : decode b_M_turn 90 = .ok (.iload 5, 2) := by decide +kernel
theorem d_M_turn_92 : decode b_M_turn 92 = .ok (.aload_n 0, 1) := by decide +kernel
theorem d_M_turn_93 : decode b_M_turn 93 = .ok (.getfield 56, 3) := by decide +kernel
theorem d_M_turn_96 : decode b_M_turn 96 = .ok (.if_icmp .ge 29, 3) := by decide +kernel
theorem d_M_turn_99 : decode b_M_turn 99 = .ok (.lload_n 1, 1) := by decide +kernel
theorem d_M_turn_100 : decode b_M_turn 100 = .ok (.aload_n 0, 1) := by decide +kernel
theorem d_M_turn_101 : decode b_M_turn 101 = .ok (.getfield 13, 3) := by decide +kernel
theorem d_M_turn_104 : decode b_M_turn 104 = .ok (.iload 5, 2) := by decide +kernel
theorem d_M_turn_106 : decode b_M_turn 106 = .ok (.laload, 1) := by decide +kernel
theorem d_M_turn_107 : decode b_M_turn 107 = .ok (.ladd, 1) := by decide +kernel
theorem d_M_turn_108 : decode b_M_turn 108 = .ok (.lstore_n 1, 1) := by decide +kernel
theorem d_M_turn_109 : decode b_M_turn 109 = .ok (.lload_n 3, 1) := by decide +kernel
theorem d_M_turn_110 : decode b_M_turn 110 = .ok (.aload_n 0, 1) := by decide +kernel
theorem d_M_turn_111 : decode b_M_turn 111 = .ok (.getfield 16, 3) := by decide +kernel
theorem d_M_turn_114 : decode b_M_turn 114 = .ok (.iload 5, 2) := by decide +kernel
theorem d_M_turn_116 : decode b_M_turn 116 = .ok (.laload, 1) := by decide +kernel
theorem d_M_turn_117 : decode b_M_turn 117 = .ok (.ladd, 1) := by decide +kernel
theorem d_M_turn_118 : decode b_M_turn 118 = .ok (.lstore_n 3, 1) := by decide +kernel
theorem d_M_turn_119 : decode b_M_turn 119 = .ok (.iinc 5 1, 3) := by decide +kernel
theorem d_M_turn_122 : decode b_M_turn 122 = .ok (.goto (-32), 3) := by decide +kernel
theorem d_M_turn_125 : decode b_M_turn 125 = .ok (.iconst 0, 1) := by decide +kernel
theorem d_M_turn_126 : decode b_M_turn 126 = .ok (.istore 5, 2) := by decide +kernel
theorem d_M_turn_128 : decode b_M_turn 128 = .ok (.iload 5, 2) := by decide +kernel
theorem d_M_turn_130 : decode b_M_turn 130 = .ok (.aload_n 0, 1) := by decide +kernel
theorem d_M_turn_131 : decode b_M_turn 131 = .ok (.getfield 56, 3) := by decide +kernel
theorem d_M_turn_134 : decode b_M_turn 134 = .ok (.if_icmp .ge 37, 3) := by decide +kernel
theorem d_M_turn_137 : decode b_M_turn 137 = .ok (.aload_n 0, 1) := by decide +kernel
theorem d_M_turn_138 : decode b_M_turn 138 = .ok (.getfield 13, 3) := by decide +kernel
theorem d_M_turn_141 : decode b_M_turn 141 = .ok (.iload 5, 2) := by decide +kernel
theorem d_M_turn_143 : decode b_M_turn 143 = .ok (.aload_n 0, 1) := by decide +kernel
theorem d_M_turn_144 : decode b_M_turn 144 = .ok (.lload_n 1, 1) := by decide +kernel
theorem d_M_turn_145 : decode b_M_turn 145 = .ok (.iload 5, 2) := by decide +kernel
theorem d_M_turn_147 : decode b_M_turn 147 = .ok (.invokevirtual 150, 3) := by decide +kernel
theorem d_M_turn_150 : decode b_M_turn 150 = .ok (.lastore, 1) := by decide +kernel
theorem d_M_turn_151 : decode b_M_turn 151 = .ok (.aload_n 0, 1) := by decide +kernel
theorem d_M_turn_152 : decode b_M_turn 152 = .ok (.getfield 16, 3) := by decide +kernel
theorem d_M_turn_155 : decode b_M_turn 155 = .ok (.iload 5, 2) := by decide +kernel
theorem d_M_turn_157 : decode b_M_turn 157 = .ok (.aload_n 0, 1) := by decide +kernel
theorem d_M_turn_158 : decode b_M_turn 158 = .ok (.lload_n 3, 1) := by decide +kernel
theorem d_M_turn_159 : decode b_M_turn 159 = .ok (.iload 5, 2) := by decide +kernel
theorem d_M_turn_161 : decode b_M_turn 161 = .ok (.invokevirtual 150, 3) := by decide +kernel
theorem d_M_turn_164 : decode b_M_turn 164 = .ok (.lastore, 1) := by decide +kernel
theorem d_M_turn_165 : decode b_M_turn 165 = .ok (.iinc 5 1, 3) := by decide +kernel
theorem d_M_turn_168 : decode b_M_turn 168 = .ok (.goto (-40), 3) := by decide +kernel
theorem d_M_turn_171 : decode b_M_turn 171 = .ok (.aload_n 0, 1) := by decide +kernel
theorem d_M_turn_172 : decode b_M_turn 172 = .ok (.dup, 1) := by decide +kernel
theorem d_M_turn_173 : decode b_M_turn 173 = .ok (.getfield 154, 3) := by decide +kernel
theorem d_M_turn_176 : decode b_M_turn 176 = .ok (.iconst 1, 1) := by decide +kernel
theorem d_M_turn_177 : decode b_M_turn 177 = .ok (.iadd, 1) := by decide +kernel
theorem d_M_turn_178 : decode b_M_turn 178 = .ok (.putfield 154, 3) := by decide +kernel
theorem d_M_turn_181 : decode b_M_turn 181 = .ok (.aload_n 0, 1) := by decide +kernel
theorem d_M_turn_182 : decode b_M_turn 182 = .ok (.getfield 154, 3) := by decide +kernel
theorem d_M_turn_185 : decode b_M_turn 185 = .ok (.ireturn, 1) := by decide +kernel
theorem d_M_shareOf_0 : decode b_M_shareOf 0 = .ok (.lload_n 1, 1) := by decide +kernel
theorem d_M_shareOf_1 : decode b_M_shareOf 1 = .ok (.aload_n 0, 1) := by decide +kernel
theorem d_M_shareOf_2 : decode b_M_shareOf 2 = .ok (.getfield 56, 3) := by decide +kernel
theorem d_M_shareOf_5 : decode b_M_shareOf 5 = .ok (.i2l, 1) := by decide +kernel
theorem d_M_shareOf_6 : decode b_M_shareOf 6 = .ok (.ldiv, 1) := by decide +kernel
theorem d_M_shareOf_7 : decode b_M_shareOf 7 = .ok (.iload_n 3, 1) := by decide +kernel
theorem d_M_shareOf_8 : decode b_M_shareOf 8 = .ok (.i2l, 1) := by decide +kernel
theorem d_M_shareOf_9 : decode b_M_shareOf 9 = .ok (.lload_n 1, 1) := by decide +kernel
theorem d_M_shareOf_10 : decode b_M_shareOf 10 = .ok (.aload_n 0, 1) := by decide +kernel
theorem d_M_shareOf_11 : decode b_M_shareOf 11 = .ok (.getfield 56, 3) := by decide +kernel
theorem d_M_shareOf_14 : decode b_M_shareOf 14 = .ok (.i2l, 1) := by decide +kernel
theorem d_M_shareOf_15 : decode b_M_shareOf 15 = .ok (.lrem, 1) := by decide +kernel
theorem d_M_shareOf_16 : decode b_M_shareOf 16 = .ok (.lcmp, 1) := by decide +kernel
theorem d_M_shareOf_17 : decode b_M_shareOf 17 = .ok (.ifCond .ge 7, 3) := by decide +kernel
theorem d_M_shareOf_20 : decode b_M_shareOf 20 = .ok (.lconst 1, 1) := by decide +kernel
theorem d_M_shareOf_21 : decode b_M_shareOf 21 = .ok (.goto 4, 3) := by decide +kernel
theorem d_M_shareOf_24 : decode b_M_shareOf 24 = .ok (.lconst 0, 1) := by decide +kernel
theorem d_M_shareOf_25 : decode b_M_shareOf 25 = .ok (.ladd, 1) := by decide +kernel
theorem d_M_shareOf_26 : decode b_M_shareOf 26 = .ok (.lreturn, 1) := by decide +kernel
theorem d_M_gone_0 : decode b_M_gone 0 = .ok (.iload_n 1, 1) := by decide +kernel
theorem d_M_gone_1 : decode b_M_gone 1 = .ok (.i2l, 1) := by decide +kernel
theorem d_M_gone_2 : decode b_M_gone 2 = .ok (.lconst 0, 1) := by decide +kernel
theorem d_M_gone_3 : decode b_M_gone 3 = .ok (.ldc2_w 157, 3) := by decide +kernel
theorem d_M_gone_6 : decode b_M_gone 6 = .ok (.invokestatic 69, 3) := by decide +kernel
theorem d_M_gone_9 : decode b_M_gone 9 = .ok (.ifCond .eq 12, 3) := by decide +kernel
theorem d_M_gone_12 : decode b_M_gone 12 = .ok (.aload_n 0, 1) := by decide +kernel
theorem d_M_gone_13 : decode b_M_gone 13 = .ok (.getfield 47, 3) := by decide +kernel
theorem d_M_gone_16 : decode b_M_gone 16 = .ok (.iload_n 1, 1) := by decide +kernel
theorem d_M_gone_17 : decode b_M_gone 17 = .ok (.laload, 1) := by decide +kernel
theorem d_M_gone_18 : decode b_M_gone 18 = .ok (.goto 6, 3) := by decide +kernel
theorem d_M_gone_21 : decode b_M_gone 21 = .ok (.ldc2_w 148, 3) := by decide +kernel
theorem d_M_gone_24 : decode b_M_gone 24 = .ok (.lreturn, 1) := by decide +kernel
theorem d_M_balance_0 : decode b_M_balance 0 = .ok (.iload_n 1, 1) := by decide +kernel
theorem d_M_balance_1 : decode b_M_balance 1 = .ok (.i2l, 1) := by decide +kernel
theorem d_M_balance_2 : decode b_M_balance 2 = .ok (.lconst 0, 1) := by decide +kernel
theorem d_M_balance_3 : decode b_M_balance 3 = .ok (.ldc2_w 159, 3) := by decide +kernel
theorem d_M_balance_6 : decode b_M_balance 6 = .ok (.invokestatic 69, 3) := by decide +kernel
theorem d_M_balance_9 : decode b_M_balance 9 = .ok (.ifCond .ne 7, 3) := by decide +kernel
theorem d_M_balance_12 : decode b_M_balance 12 = .ok (.ldc2_w 148, 3) := by decide +kernel
theorem d_M_balance_15 : decode b_M_balance 15 = .ok (.lreturn, 1) := by decide +kernel
theorem d_M_balance_16 : decode b_M_balance 16 = .ok (.aload_n 0, 1) := by decide +kernel
theorem d_M_balance_17 : decode b_M_balance 17 = .ok (.getfield 50, 3) := by decide +kernel
theorem d_M_balance_20 : decode b_M_balance 20 = .ok (.iload_n 1, 1) := by decide +kernel
theorem d_M_balance_21 : decode b_M_balance 21 = .ok (.laload, 1) := by decide +kernel
theorem d_M_balance_22 : decode b_M_balance 22 = .ok (.aload_n 0, 1) := by decide +kernel
theorem d_M_balance_23 : decode b_M_balance 23 = .ok (.getfield 53, 3) := by decide +kernel
theorem d_M_balance_26 : decode b_M_balance 26 = .ok (.iload_n 1, 1) := by decide +kernel
theorem d_M_balance_27 : decode b_M_balance 27 = .ok (.laload, 1) := by decide +kernel
theorem d_M_balance_28 : decode b_M_balance 28 = .ok (.lsub, 1) := by decide +kernel
theorem d_M_balance_29 : decode b_M_balance 29 = .ok (.aload_n 0, 1) := by decide +kernel
theorem d_M_balance_30 : decode b_M_balance 30 = .ok (.iload_n 1, 1) := by decide +kernel
theorem d_M_balance_31 : decode b_M_balance 31 = .ok (.invokevirtual 161, 3) := by decide +kernel
theorem d_M_balance_34 : decode b_M_balance 34 = .ok (.lsub, 1) := by decide +kernel
theorem d_M_balance_35 : decode b_M_balance 35 = .ok (.lstore_n 2, 1) := by decide +kernel
theorem d_M_balance_36 : decode b_M_balance 36 = .ok (.iload_n 1, 1) := by decide +kernel
theorem d_M_balance_37 : decode b_M_balance 37 = .ok (.ifCond .ne 12, 3) := by decide +kernel
theorem d_M_balance_40 : decode b_M_balance 40 = .ok (.lload_n 2, 1) := by decide +kernel
theorem d_M_balance_41 : decode b_M_balance 41 = .ok (.aload_n 0, 1) := by decide +kernel
theorem d_M_balance_42 : decode b_M_balance 42 = .ok (.getfield 47, 3) := by decide +kernel
theorem d_M_balance_45 : decode b_M_balance 45 = .ok (.iconst 0, 1) := by decide +kernel
theorem d_M_balance_46 : decode b_M_balance 46 = .ok (.laload, 1) := by decide +kernel
theorem d_M_balance_47 : decode b_M_balance 47 = .ok (.lsub, 1) := by decide +kernel
theorem d_M_balance_48 : decode b_M_balance 48 = .ok (.lreturn, 1) := by decide +kernel
theorem d_M_balance_49 : decode b_M_balance 49 = .ok (.iload_n 1, 1) := by decide +kernel
theorem d_M_balance_50 : decode b_M_balance 50 = .ok (.iconst 1, 1) := by decide +kernel
theorem d_M_balance_51 : decode b_M_balance 51 = .ok (.if_icmp .ne 36, 3) := by decide +kernel
theorem d_M_balance_54 : decode b_M_balance 54 = .ok (.lload_n 2, 1) := by decide +kernel
theorem d_M_balance_55 : decode b_M_balance 55 = .ok (.aload_n 0, 1) := by decide +kernel
theorem d_M_balance_56 : decode b_M_balance 56 = .ok (.getfield 47, 3) := by decide +kernel
theorem d_M_balance_59 : decode b_M_balance 59 = .ok (.iconst 3, 1) := by decide +kernel
theorem d_M_balance_60 : decode b_M_balance 60 = .ok (.laload, 1) := by decide +kernel
theorem d_M_balance_61 : decode b_M_balance 61 = .ok (.ladd, 1) := by decide +kernel
theorem d_M_balance_62 : decode b_M_balance 62 = .ok (.aload_n 0, 1) := by decide +kernel
theorem d_M_balance_63 : decode b_M_balance 63 = .ok (.getfield 47, 3) := by decide +kernel
theorem d_M_balance_66 : decode b_M_balance 66 = .ok (.bipush 7, 2) := by decide +kernel
theorem d_M_balance_68 : decode b_M_balance 68 = .ok (.laload, 1) := by decide +kernel
theorem d_M_balance_69 : decode b_M_balance 69 = .ok (.ladd, 1) := by decide +kernel
theorem d_M_balance_70 : decode b_M_balance 70 = .ok (.aload_n 0, 1) := by decide +kernel
theorem d_M_balance_71 : decode b_M_balance 71 = .ok (.getfield 47, 3) := by decide +kernel
theorem d_M_balance_74 : decode b_M_balance 74 = .ok (.iconst 1, 1) := by decide +kernel
theorem d_M_balance_75 : decode b_M_balance 75 = .ok (.laload, 1) := by decide +kernel
theorem d_M_balance_76 : decode b_M_balance 76 = .ok (.lsub, 1) := by decide +kernel
theorem d_M_balance_77 : decode b_M_balance 77 = .ok (.aload_n 0, 1) := by decide +kernel
theorem d_M_balance_78 : decode b_M_balance 78 = .ok (.getfield 47, 3) := by decide +kernel
theorem d_M_balance_81 : decode b_M_balance 81 = .ok (.iconst 2, 1) := by decide +kernel
theorem d_M_balance_82 : decode b_M_balance 82 = .ok (.laload, 1) := by decide +kernel
theorem d_M_balance_83 : decode b_M_balance 83 = .ok (.lsub, 1) := by decide +kernel
theorem d_M_balance_84 : decode b_M_balance 84 = .ok (.goto 26, 3) := by decide +kernel
theorem d_M_balance_87 : decode b_M_balance 87 = .ok (.lload_n 2, 1) := by decide +kernel
theorem d_M_balance_88 : decode b_M_balance 88 = .ok (.aload_n 0, 1) := by decide +kernel
theorem d_M_balance_89 : decode b_M_balance 89 = .ok (.getfield 47, 3) := by decide +kernel
theorem d_M_balance_92 : decode b_M_balance 92 = .ok (.iconst 4, 1) := by decide +kernel
theorem d_M_balance_93 : decode b_M_balance 93 = .ok (.laload, 1) := by decide +kernel
theorem d_M_balance_94 : decode b_M_balance 94 = .ok (.ladd, 1) := by decide +kernel
theorem d_M_balance_95 : decode b_M_balance 95 = .ok (.aload_n 0, 1) := by decide +kernel
theorem d_M_balance_96 : decode b_M_balance 96 = .ok (.getfield 47, 3) := by decide +kernel
theorem d_M_balance_99 : decode b_M_balance 99 = .ok (.iconst 5, 1) := by decide +kernel
theorem d_M_balance_100 : decode b_M_balance 100 = .ok (.laload, 1) := by decide +kernel
theorem d_M_balance_101 : decode b_M_balance 101 = .ok (.lsub, 1) := by decide +kernel
theorem d_M_balance_102 : decode b_M_balance 102 = .ok (.aload_n 0, 1) := by decide +kernel
theorem d_M_balance_103 : decode b_M_balance 103 = .ok (.getfield 47, 3) := by decide +kernel
theorem d_M_balance_106 : decode b_M_balance 106 = .ok (.bipush 6, 2) := by decide +kernel
theorem d_M_balance_108 : decode b_M_balance 108 = .ok (.laload, 1) := by decide +kernel
theorem d_M_balance_109 : decode b_M_balance 109 = .ok (.lsub, 1) := by decide +kernel
theorem d_M_balance_110 : decode b_M_balance 110 = .ok (.lreturn, 1) := by decide +kernel
theorem d_M_there_0 : decode b_M_there 0 = .ok (.lconst 0, 1) := by decide +kernel
theorem d_M_there_1 : decode b_M_there 1 = .ok (.lstore_n 2, 1) := by decide +kernel
theorem d_M_there_2 : decode b_M_there 2 = .ok (.iconst 0, 1) := by decide +kernel
theorem d_M_there_3 : decode b_M_there 3 = .ok (.istore 4, 2) := by decide +kernel
theorem d_M_there_5 : decode b_M_there 5 = .ok (.iload 4, 2) := by decide +kernel
theorem d_M_there_7 : decode b_M_there 7 = .ok (.aload_n 0, 1) := by decide +kernel
theorem d_M_there_8 : decode b_M_there 8 = .ok (.getfield 56, 3) := by decide +kernel
theorem d_M_there_11 : decode b_M_there 11 = .ok (.if_icmp .ge 55, 3) := by decide +kernel
theorem d_M_there_14 : decode b_M_there 14 = .ok (.lload_n 2, 1) := by decide +kernel
theorem d_M_there_15 : decode b_M_there 15 = .ok (.iload_n 1, 1) := by decide +kernel
theorem d_M_there_16 : decode b_M_there 16 = .ok (.ifCond .ne 20, 3) := by decide +kernel
theorem d_M_there_19 : decode b_M_there 19 = .ok (.aload_n 0, 1) := by decide +kernel
theorem d_M_there_20 : decode b_M_there 20 = .ok (.iload 4, 2) := by decide +kernel
theorem d_M_there_22 : decode b_M_there 22 = .ok (.invokevirtual 103, 3) := by decide +kernel
theorem d_M_there_25 : decode b_M_there 25 = .ok (.aload_n 0, 1) := by decide +kernel
theorem d_M_there_26 : decode b_M_there 26 = .ok (.getfield 13, 3) := by decide +kernel
theorem d_M_there_29 : decode b_M_there 29 = .ok (.iload 4, 2) := by decide +kernel
theorem d_M_there_31 : decode b_M_there 31 = .ok (.laload, 1) := by decide +kernel
theorem d_M_there_32 : decode b_M_there 32 = .ok (.lsub, 1) := by decide +kernel
theorem d_M_there_33 : decode b_M_there 33 = .ok (.goto 25, 3) := by decide +kernel
theorem d_M_there_36 : decode b_M_there 36 = .ok (.iload_n 1, 1) := by decide +kernel
theorem d_M_there_37 : decode b_M_there 37 = .ok (.iconst 1, 1) := by decide +kernel
theorem d_M_there_38 : decode b_M_there 38 = .ok (.if_icmp .ne 13, 3) := by decide +kernel
theorem d_M_there_41 : decode b_M_there 41 = .ok (.aload_n 0, 1) := by decide +kernel
theorem d_M_there_42 : decode b_M_there 42 = .ok (.getfield 13, 3) := by decide +kernel
theorem d_M_there_45 : decode b_M_there 45 = .ok (.iload 4, 2) := by decide +kernel
theorem d_M_there_47 : decode b_M_there 47 = .ok (.laload, 1) := by decide +kernel
theorem d_M_there_48 : decode b_M_there 48 = .ok (.goto 10, 3) := by decide +kernel
theorem d_M_there_51 : decode b_M_there 51 = .ok (.aload_n 0, 1) := by decide +kernel
theorem d_M_there_52 : decode b_M_there 52 = .ok (.getfield 16, 3) := by decide +kernel
theorem d_M_there_55 : decode b_M_there 55 = .ok (.iload 4, 2) := by decide +kernel
theorem d_M_there_57 : decode b_M_there 57 = .ok (.laload, 1) := by decide +kernel
theorem d_M_there_58 : decode b_M_there 58 = .ok (.ladd, 1) := by decide +kernel
theorem d_M_there_59 : decode b_M_there 59 = .ok (.lstore_n 2, 1) := by decide +kernel
theorem d_M_there_60 : decode b_M_there 60 = .ok (.iinc 4 1, 3) := by decide +kernel
theorem d_M_there_63 : decode b_M_there 63 = .ok (.goto (-58), 3) := by decide +kernel
theorem d_M_there_66 : decode b_M_there 66 = .ok (.lload_n 2, 1) := by decide +kernel
theorem d_M_there_67 : decode b_M_there 67 = .ok (.lreturn, 1) := by decide +kernel
theorem d_M_batch_0 : decode b_M_batch 0 = .ok (.aload_n 0, 1) := by decide +kernel
theorem d_M_batch_1 : decode b_M_batch 1 = .ok (.iconst 0, 1) := by decide +kernel
theorem d_M_batch_2 : decode b_M_batch 2 = .ok (.invokevirtual 161, 3) := by decide +kernel
theorem d_M_batch_5 : decode b_M_batch 5 = .ok (.aload_n 0, 1) := by decide +kernel
theorem d_M_batch_6 : decode b_M_batch 6 = .ok (.iconst 1, 1) := by decide +kernel
theorem d_M_batch_7 : decode b_M_batch 7 = .ok (.invokevirtual 161, 3) := by decide +kernel
theorem d_M_batch_10 : decode b_M_batch 10 = .ok (.ladd, 1) := by decide +kernel
theorem d_M_batch_11 : decode b_M_batch 11 = .ok (.lstore_n 1, 1) := by decide +kernel
theorem d_M_batch_12 : decode b_M_batch 12 = .ok (.iconst 0, 1) := by decide +kernel
theorem d_M_batch_13 : decode b_M_batch 13 = .ok (.istore_n 3, 1) := by decide +kernel
theorem d_M_batch_14 : decode b_M_batch 14 = .ok (.iload_n 3, 1) := by decide +kernel
theorem d_M_batch_15 : decode b_M_batch 15 = .ok (.iconst 3, 1) := by decide +kernel
theorem d_M_batch_16 : decode b_M_batch 16 = .ok (.if_icmp .ge 23, 3) := by decide +kernel
theorem d_M_batch_19 : decode b_M_batch 19 = .ok (.aload_n 0, 1) := by decide +kernel
theorem d_M_batch_20 : decode b_M_batch 20 = .ok (.getfield 53, 3) := by decide +kernel
theorem d_M_batch_23 : decode b_M_batch 23 = .ok (.iload_n 3, 1) := by decide +kernel
theorem d_M_batch_24 : decode b_M_batch 24 = .ok (.dup2, 1) := by decide +kernel
theorem d_M_batch_25 : decode b_M_batch 25 = .ok (.laload, 1) := by decide +kernel
theorem d_M_batch_26 : decode b_M_batch 26 = .ok (.aload_n 0, 1) := by decide +kernel
theorem d_M_batch_27 : decode b_M_batch 27 = .ok (.iload_n 3, 1) := by decide +kernel
theorem d_M_batch_28 : decode b_M_batch 28 = .ok (.invokevirtual 161, 3) := by decide +kernel
theorem d_M_batch_31 : decode b_M_batch 31 = .ok (.ladd, 1) := by decide +kernel
theorem d_M_batch_32 : decode b_M_batch 32 = .ok (.lastore, 1) := by decide +kernel
theorem d_M_batch_33 : decode b_M_batch 33 = .ok (.iinc 3 1, 3) := by decide +kernel
theorem d_M_batch_36 : decode b_M_batch 36 = .ok (.goto (-22), 3) := by decide +kernel
theorem d_M_batch_39 : decode b_M_batch 39 = .ok (.iconst 0, 1) := by decide +kernel
theorem d_M_batch_40 : decode b_M_batch 40 = .ok (.istore_n 3, 1) := by decide +kernel
theorem d_M_batch_41 : decode b_M_batch 41 = .ok (.iload_n 3, 1) := by decide +kernel
theorem d_M_batch_42 : decode b_M_batch 42 = .ok (.aload_n 0, 1) := by decide +kernel
theorem d_M_batch_43 : decode b_M_batch 43 = .ok (.getfield 56, 3) := by decide +kernel
theorem d_M_batch_46 : decode b_M_batch 46 = .ok (.if_icmp .ge 50, 3) := by decide +kernel
theorem d_M_batch_49 : decode b_M_batch 49 = .ok (.iconst 0, 1) := by decide +kernel
theorem d_M_batch_50 : decode b_M_batch 50 = .ok (.istore 4, 2) := by decide +kernel
theorem d_M_batch_52 : decode b_M_batch 52 = .ok (.iload 4, 2) := by decide +kernel
theorem d_M_batch_54 : decode b_M_batch 54 = .ok (.iconst 3, 1) := by decide +kernel
theorem d_M_batch_55 : decode b_M_batch 55 = .ok (.if_icmp .ge 21, 3) := by decide +kernel
theorem d_M_batch_58 : decode b_M_batch 58 = .ok (.aload_n 0, 1) := by decide +kernel
theorem d_M_batch_59 : decode b_M_batch 59 = .ok (.getfield 7, 3) := by decide +kernel
theorem d_M_batch_62 : decode b_M_batch 62 = .ok (.iconst 3, 1) := by decide +kernel
theorem d_M_batch_63 : decode b_M_batch 63 = .ok (.iload_n 3, 1) := by decide +kernel
theorem d_M_batch_64 : decode b_M_batch 64 = .ok (.imul, 1) := by decide +kernel
theorem d_M_batch_65 : decode b_M_batch 65 = .ok (.iload 4, 2) := by decide +kernel
theorem d_M_batch_67 : decode b_M_batch 67 = .ok (.iadd, 1) := by decide +kernel
theorem d_M_batch_68 : decode b_M_batch 68 = .ok (.lconst 0, 1) := by decide +kernel
theorem d_M_batch_69 : decode b_M_batch 69 = .ok (.lastore, 1) := by decide +kernel
theorem d_M_batch_70 : decode b_M_batch 70 = .ok (.iinc 4 1, 3) := by decide +kernel
theorem d_M_batch_73 : decode b_M_batch 73 = .ok (.goto (-21), 3) := by decide +kernel
theorem d_M_batch_76 : decode b_M_batch 76 = .ok (.aload_n 0, 1) := by decide +kernel
theorem d_M_batch_77 : decode b_M_batch 77 = .ok (.getfield 13, 3) := by decide +kernel
theorem d_M_batch_80 : decode b_M_batch 80 = .ok (.iload_n 3, 1) := by decide +kernel
theorem d_M_batch_81 : decode b_M_batch 81 = .ok (.lconst 0, 1) := by decide +kernel
theorem d_M_batch_82 : decode b_M_batch 82 = .ok (.lastore, 1) := by decide +kernel
theorem d_M_batch_83 : decode b_M_batch 83 = .ok (.aload_n 0, 1) := by decide +kernel
theorem d_M_batch_84 : decode b_M_batch 84 = .ok (.getfield 16, 3) := by decide +kernel
theorem d_M_batch_87 : decode b_M_batch 87 = .ok (.iload_n 3, 1) := by decide +kernel
theorem d_M_batch_88 : decode b_M_batch 88 = .ok (.lconst 0, 1) := by decide +kernel
theorem d_M_batch_89 : decode b_M_batch 89 = .ok (.lastore, 1) := by decide +kernel
theorem d_M_batch_90 : decode b_M_batch 90 = .ok (.iinc 3 1, 3) := by decide +kernel
theorem d_M_batch_93 : decode b_M_batch 93 = .ok (.goto (-52), 3) := by decide +kernel
theorem d_M_batch_96 : decode b_M_batch 96 = .ok (.lload_n 1, 1) := by decide +kernel
theorem d_M_batch_97 : decode b_M_batch 97 = .ok (.lreturn, 1) := by decide +kernel
end
section
theorem d_L_cell_0 : decode b_L_cell 0 = .ok (.iload_n 1, 1) := by decide +kernel
theorem d_L_cell_1 : decode b_L_cell 1 = .ok (.aload_n 0, 1) := by decide +kernel
theorem d_L_cell_2 : decode b_L_cell 2 = .ok (.arraylength, 1) := by decide +kernel
theorem d_L_cell_3 : decode b_L_cell 3 = .ok (.if_icmp .ge 9, 3) := by decide +kernel
theorem d_L_cell_6 : decode b_L_cell 6 = .ok (.aload_n 0, 1) := by decide +kernel
theorem d_L_cell_7 : decode b_L_cell 7 = .ok (.iload_n 1, 1) := by decide +kernel
theorem d_L_cell_8 : decode b_L_cell 8 = .ok (.iaload, 1) := by decide +kernel
theorem d_L_cell_9 : decode b_L_cell 9 = .ok (.goto 4, 3) := by decide +kernel
theorem d_L_cell_12 : decode b_L_cell 12 = .ok (.iconst 0, 1) := by decide +kernel
theorem d_L_cell_13 : decode b_L_cell 13 = .ok (.ireturn, 1) := by decide +kernel
theorem d_L_law_0 : decode code 0 = .ok (.new 7, 3) := by decide +kernel
theorem d_L_law_3 : decode code 3 = .ok (.dup, 1) := by decide +kernel
theorem d_L_law_4 : decode code 4 = .ok (.aload_n 0, 1) := by decide +kernel
theorem d_L_law_5 : decode code 5 = .ok (.iconst 0, 1) := by decide +kernel
theorem d_L_law_6 : decode code 6 = .ok (.invokestatic 9, 3) := by decide +kernel
theorem d_L_law_9 : decode code 9 = .ok (.invokespecial 15, 3) := by decide +kernel
theorem d_L_law_12 : decode code 12 = .ok (.astore_n 1, 1) := by decide +kernel
theorem d_L_law_13 : decode code 13 = .ok (.new 18, 3) := by decide +kernel
theorem d_L_law_16 : decode code 16 = .ok (.dup, 1) := by decide +kernel
theorem d_L_law_17 : decode code 17 = .ok (.aload_n 0, 1) := by decide +kernel
theorem d_L_law_18 : decode code 18 = .ok (.iconst 0, 1) := by decide +kernel
theorem d_L_law_19 : decode code 19 = .ok (.invokestatic 9, 3) := by decide +kernel
theorem d_L_law_22 : decode code 22 = .ok (.invokespecial 20, 3) := by decide +kernel
theorem d_L_law_25 : decode code 25 = .ok (.astore_n 2, 1) := by decide +kernel
theorem d_L_law_26 : decode code 26 = .ok (.iconst 1, 1) := by decide +kernel
theorem d_L_law_27 : decode code 27 = .ok (.istore_n 3, 1) := by decide +kernel
theorem d_L_law_28 : decode code 28 = .ok (.iload_n 3, 1) := by decide +kernel
theorem d_L_law_29 : decode code 29 = .ok (.aload_n 0, 1) := by decide +kernel
theorem d_L_law_30 : decode code 30 = .ok (.arraylength, 1) := by decide +kernel
theorem d_L_law_31 : decode code 31 = .ok (.iconst 4, 1) := by decide +kernel
theorem d_L_law_32 : decode code 32 = .ok (.isub, 1) := by decide +kernel
theorem d_L_law_33 : decode code 33 = .ok (.if_icmp .gt 648, 3) := by decide +kernel
theorem d_L_law_36 : decode code 36 = .ok (.aload_n 0, 1) := by decide +kernel
theorem d_L_law_37 : decode code 37 = .ok (.iload_n 3, 1) := by decide +kernel
theorem d_L_law_38 : decode code 38 = .ok (.iaload, 1) := by decide +kernel
theorem d_L_law_39 : decode code 39 = .ok (.bipush 31, 2) := by decide +kernel
theorem d_L_law_41 : decode code 41 = .ok (.iand, 1) := by decide +kernel
theorem d_L_law_42 : decode code 42 = .ok (.tableswitch 633 0 18 #[90, 133, 166, 199, 242, 285, 328, 351, 374, 417, 440, 463, 497, 521, 545, 558, 571, 595, 619], 90) := by decide +kernel
theorem d_L_law_132 : decode code 132 = .ok (.aload_n 1, 1) := by decide +kernel
theorem d_L_law_133 : decode code 133 = .ok (.aload_n 0, 1) := by decide +kernel
theorem d_L_law_134 : decode code 134 = .ok (.iload_n 3, 1) := by decide +kernel
theorem d_L_law_135 : decode code 135 = .ok (.iconst 1, 1) := by decide +kernel
theorem d_L_law_136 : decode code 136 = .ok (.iadd, 1) := by decide +kernel
theorem d_L_law_137 : decode code 137 = .ok (.iaload, 1) := by decide +kernel
theorem d_L_law_138 : decode code 138 = .ok (.aload_n 0, 1) := by decide +kernel
theorem d_L_law_139 : decode code 139 = .ok (.iload_n 3, 1) := by decide +kernel
theorem d_L_law_140 : decode code 140 = .ok (.iconst 2, 1) := by decide +kernel
theorem d_L_law_141 : decode code 141 = .ok (.iadd, 1) := by decide +kernel
theorem d_L_law_142 : decode code 142 = .ok (.iaload, 1) := by decide +kernel
theorem d_L_law_143 : decode code 143 = .ok (.aload_n 0, 1) := by decide +kernel
theorem d_L_law_144 : decode code 144 = .ok (.iload_n 3, 1) := by decide +kernel
theorem d_L_law_145 : decode code 145 = .ok (.iconst 3, 1) := by decide +kernel
theorem d_L_law_146 : decode code 146 = .ok (.iadd, 1) := by decide +kernel
theorem d_L_law_147 : decode code 147 = .ok (.iaload, 1) := by decide +kernel
theorem d_L_law_148 : decode code 148 = .ok (.invokevirtual 21, 3) := by decide +kernel
theorem d_L_law_151 : decode code 151 = .ok (.aload_n 2, 1) := by decide +kernel
theorem d_L_law_152 : decode code 152 = .ok (.aload_n 0, 1) := by decide +kernel
theorem d_L_law_153 : decode code 153 = .ok (.iload_n 3, 1) := by decide +kernel
theorem d_L_law_154 : decode code 154 = .ok (.iconst 1, 1) := by decide +kernel
theorem d_L_law_155 : decode code 155 = .ok (.iadd, 1) := by decide +kernel
theorem d_L_law_156 : decode code 156 = .ok (.iaload, 1) := by decide +kernel
theorem d_L_law_157 : decode code 157 = .ok (.aload_n 0, 1) := by decide +kernel
theorem d_L_law_158 : decode code 158 = .ok (.iload_n 3, 1) := by decide +kernel
theorem d_L_law_159 : decode code 159 = .ok (.iconst 2, 1) := by decide +kernel
theorem d_L_law_160 : decode code 160 = .ok (.iadd, 1) := by decide +kernel
theorem d_L_law_161 : decode code 161 = .ok (.iaload, 1) := by decide +kernel
theorem d_L_law_162 : decode code 162 = .ok (.aload_n 0, 1) := by decide +kernel
theorem d_L_law_163 : decode code 163 = .ok (.iload_n 3, 1) := by decide +kernel
theorem d_L_law_164 : decode code 164 = .ok (.iconst 3, 1) := by decide +kernel
theorem d_L_law_165 : decode code 165 = .ok (.iadd, 1) := by decide +kernel
theorem d_L_law_166 : decode code 166 = .ok (.iaload, 1) := by decide +kernel
theorem d_L_law_167 : decode code 167 = .ok (.invokevirtual 25, 3) := by decide +kernel
theorem d_L_law_170 : decode code 170 = .ok (.if_icmp .eq 505, 3) := by decide +kernel
theorem d_L_law_173 : decode code 173 = .ok (.iconst 0, 1) := by decide +kernel
theorem d_L_law_174 : decode code 174 = .ok (.ireturn, 1) := by decide +kernel
theorem d_L_law_175 : decode code 175 = .ok (.aload_n 1, 1) := by decide +kernel
theorem d_L_law_176 : decode code 176 = .ok (.aload_n 0, 1) := by decide +kernel
theorem d_L_law_177 : decode code 177 = .ok (.iload_n 3, 1) := by decide +kernel
theorem d_L_law_178 : decode code 178 = .ok (.iconst 1, 1) := by decide +kernel
theorem d_L_law_179 : decode code 179 = .ok (.iadd, 1) := by decide +kernel
theorem d_L_law_180 : decode code 180 = .ok (.iaload, 1) := by decide +kernel
theorem d_L_law_181 : decode code 181 = .ok (.aload_n 0, 1) := by decide +kernel
theorem d_L_law_182 : decode code 182 = .ok (.iload_n 3, 1) := by decide +kernel
theorem d_L_law_183 : decode code 183 = .ok (.iconst 2, 1) := by decide +kernel
theorem d_L_law_184 : decode code 184 = .ok (.iadd, 1) := by decide +kernel
theorem d_L_law_185 : decode code 185 = .ok (.iaload, 1) := by decide +kernel
theorem d_L_law_186 : decode code 186 = .ok (.invokevirtual 26, 3) := by decide +kernel
theorem d_L_law_189 : decode code 189 = .ok (.aload_n 2, 1) := by decide +kernel
theorem d_L_law_190 : decode code 190 = .ok (.aload_n 0, 1) := by decide +kernel
theorem d_L_law_191 : decode code 191 = .ok (.iload_n 3, 1) := by decide +kernel
theorem d_L_law_192 : decode code 192 = .ok (.iconst 1, 1) := by decide +kernel
theorem d_L_law_193 : decode code 193 = .ok (.iadd, 1) := by decide +kernel
theorem d_L_law_194 : decode code 194 = .ok (.iaload, 1) := by decide +kernel
theorem d_L_law_195 : decode code 195 = .ok (.aload_n 0, 1) := by decide +kernel
theorem d_L_law_196 : decode code 196 = .ok (.iload_n 3, 1) := by decide +kernel
theorem d_L_law_197 : decode code 197 = .ok (.iconst 2, 1) := by decide +kernel
theorem d_L_law_198 : decode code 198 = .ok (.iadd, 1) := by decide +kernel
theorem d_L_law_199 : decode code 199 = .ok (.iaload, 1) := by decide +kernel
theorem d_L_law_200 : decode code 200 = .ok (.invokevirtual 30, 3) := by decide +kernel
theorem d_L_law_203 : decode code 203 = .ok (.if_icmp .eq 472, 3) := by decide +kernel
theorem d_L_law_206 : decode code 206 = .ok (.iconst 0, 1) := by decide +kernel
theorem d_L_law_207 : decode code 207 = .ok (.ireturn, 1) := by decide +kernel
theorem d_L_law_208 : decode code 208 = .ok (.aload_n 1, 1) := by decide +kernel
theorem d_L_law_209 : decode code 209 = .ok (.aload_n 0, 1) := by decide +kernel
theorem d_L_law_210 : decode code 210 = .ok (.iload_n 3, 1) := by decide +kernel
theorem d_L_law_211 : decode code 211 = .ok (.iconst 1, 1) := by decide +kernel
theorem d_L_law_212 : decode code 212 = .ok (.iadd, 1) := by decide +kernel
theorem d_L_law_213 : decode code 213 = .ok (.iaload, 1) := by decide +kernel
theorem d_L_law_214 : decode code 214 = .ok (.aload_n 0, 1) := by decide +kernel
theorem d_L_law_215 : decode code 215 = .ok (.iload_n 3, 1) := by decide +kernel
theorem d_L_law_216 : decode code 216 = .ok (.iconst 2, 1) := by decide +kernel
theorem d_L_law_217 : decode code 217 = .ok (.iadd, 1) := by decide +kernel
theorem d_L_law_218 : decode code 218 = .ok (.iaload, 1) := by decide +kernel
theorem d_L_law_219 : decode code 219 = .ok (.invokevirtual 31, 3) := by decide +kernel
theorem d_L_law_222 : decode code 222 = .ok (.aload_n 2, 1) := by decide +kernel
theorem d_L_law_223 : decode code 223 = .ok (.aload_n 0, 1) := by decide +kernel
theorem d_L_law_224 : decode code 224 = .ok (.iload_n 3, 1) := by decide +kernel
theorem d_L_law_225 : decode code 225 = .ok (.iconst 1, 1) := by decide +kernel
theorem d_L_law_226 : decode code 226 = .ok (.iadd, 1) := by decide +kernel
theorem d_L_law_227 : decode code 227 = .ok (.iaload, 1) := by decide +kernel
theorem d_L_law_228 : decode code 228 = .ok (.aload_n 0, 1) := by decide +kernel
theorem d_L_law_229 : decode code 229 = .ok (.iload_n 3, 1) := by decide +kernel
theorem d_L_law_230 : decode code 230 = .ok (.iconst 2, 1) := by decide +kernel
theorem d_L_law_231 : decode code 231 = .ok (.iadd, 1) := by decide +kernel
theorem d_L_law_232 : decode code 232 = .ok (.iaload, 1) := by decide +kernel
theorem d_L_law_233 : decode code 233 = .ok (.invokevirtual 34, 3) := by decide +kernel
theorem d_L_law_236 : decode code 236 = .ok (.if_icmp .eq 439, 3) := by decide +kernel
theorem d_L_law_239 : decode code 239 = .ok (.iconst 0, 1) := by decide +kernel
theorem d_L_law_240 : decode code 240 = .ok (.ireturn, 1) := by decide +kernel
theorem d_L_law_241 : decode code 241 = .ok (.aload_n 1, 1) := by decide +kernel
theorem d_L_law_242 : decode code 242 = .ok (.aload_n 0, 1) := by decide +kernel
theorem d_L_law_243 : decode code 243 = .ok (.iload_n 3, 1) := by decide +kernel
theorem d_L_law_244 : decode code 244 = .ok (.iconst 1, 1) := by decide +kernel
theorem d_L_law_245 : decode code 245 = .ok (.iadd, 1) := by decide +kernel
theorem d_L_law_246 : decode code 246 = .ok (.iaload, 1) := by decide +kernel
theorem d_L_law_247 : decode code 247 = .ok (.aload_n 0, 1) := by decide +kernel
theorem d_L_law_248 : decode code 248 = .ok (.iload_n 3, 1) := by decide +kernel
theorem d_L_law_249 : decode code 249 = .ok (.iconst 2, 1) := by decide +kernel
theorem d_L_law_250 : decode code 250 = .ok (.iadd, 1) := by decide +kernel
theorem d_L_law_251 : decode code 251 = .ok (.iaload, 1) := by decide +kernel
theorem d_L_law_252 : decode code 252 = .ok (.aload_n 0, 1) := by decide +kernel
theorem d_L_law_253 : decode code 253 = .ok (.iload_n 3, 1) := by decide +kernel
theorem d_L_law_254 : decode code 254 = .ok (.iconst 3, 1) := by decide +kernel
theorem d_L_law_255 : decode code 255 = .ok (.iadd, 1) := by decide +kernel
theorem d_L_law_256 : decode code 256 = .ok (.iaload, 1) := by decide +kernel
theorem d_L_law_257 : decode code 257 = .ok (.invokevirtual 35, 3) := by decide +kernel
theorem d_L_law_260 : decode code 260 = .ok (.aload_n 2, 1) := by decide +kernel
theorem d_L_law_261 : decode code 261 = .ok (.aload_n 0, 1) := by decide +kernel
theorem d_L_law_262 : decode code 262 = .ok (.iload_n 3, 1) := by decide +kernel
theorem d_L_law_263 : decode code 263 = .ok (.iconst 1, 1) := by decide +kernel
theorem d_L_law_264 : decode code 264 = .ok (.iadd, 1) := by decide +kernel
theorem d_L_law_265 : decode code 265 = .ok (.iaload, 1) := by decide +kernel
theorem d_L_law_266 : decode code 266 = .ok (.aload_n 0, 1) := by decide +kernel
theorem d_L_law_267 : decode code 267 = .ok (.iload_n 3, 1) := by decide +kernel
theorem d_L_law_268 : decode code 268 = .ok (.iconst 2, 1) := by decide +kernel
theorem d_L_law_269 : decode code 269 = .ok (.iadd, 1) := by decide +kernel
theorem d_L_law_270 : decode code 270 = .ok (.iaload, 1) := by decide +kernel
theorem d_L_law_271 : decode code 271 = .ok (.aload_n 0, 1) := by decide +kernel
theorem d_L_law_272 : decode code 272 = .ok (.iload_n 3, 1) := by decide +kernel
theorem d_L_law_273 : decode code 273 = .ok (.iconst 3, 1) := by decide +kernel
theorem d_L_law_274 : decode code 274 = .ok (.iadd, 1) := by decide +kernel
theorem d_L_law_275 : decode code 275 = .ok (.iaload, 1) := by decide +kernel
theorem d_L_law_276 : decode code 276 = .ok (.invokevirtual 38, 3) := by decide +kernel
theorem d_L_law_279 : decode code 279 = .ok (.if_icmp .eq 396, 3) := by decide +kernel
theorem d_L_law_282 : decode code 282 = .ok (.iconst 0, 1) := by decide +kernel
theorem d_L_law_283 : decode code 283 = .ok (.ireturn, 1) := by decide +kernel
theorem d_L_law_284 : decode code 284 = .ok (.aload_n 1, 1) := by decide +kernel
theorem d_L_law_285 : decode code 285 = .ok (.aload_n 0, 1) := by decide +kernel
theorem d_L_law_286 : decode code 286 = .ok (.iload_n 3, 1) := by decide +kernel
theorem d_L_law_287 : decode code 287 = .ok (.iconst 1, 1) := by decide +kernel
theorem d_L_law_288 : decode code 288 = .ok (.iadd, 1) := by decide +kernel
theorem d_L_law_289 : decode code 289 = .ok (.iaload, 1) := by decide +kernel
theorem d_L_law_290 : decode code 290 = .ok (.aload_n 0, 1) := by decide +kernel
theorem d_L_law_291 : decode code 291 = .ok (.iload_n 3, 1) := by decide +kernel
theorem d_L_law_292 : decode code 292 = .ok (.iconst 2, 1) := by decide +kernel
theorem d_L_law_293 : decode code 293 = .ok (.iadd, 1) := by decide +kernel
theorem d_L_law_294 : decode code 294 = .ok (.iaload, 1) := by decide +kernel
theorem d_L_law_295 : decode code 295 = .ok (.aload_n 0, 1) := by decide +kernel
theorem d_L_law_296 : decode code 296 = .ok (.iload_n 3, 1) := by decide +kernel
theorem d_L_law_297 : decode code 297 = .ok (.iconst 3, 1) := by decide +kernel
theorem d_L_law_298 : decode code 298 = .ok (.iadd, 1) := by decide +kernel
theorem d_L_law_299 : decode code 299 = .ok (.iaload, 1) := by decide +kernel
theorem d_L_law_300 : decode code 300 = .ok (.invokevirtual 39, 3) := by decide +kernel
theorem d_L_law_303 : decode code 303 = .ok (.aload_n 2, 1) := by decide +kernel
theorem d_L_law_304 : decode code 304 = .ok (.aload_n 0, 1) := by decide +kernel
theorem d_L_law_305 : decode code 305 = .ok (.iload_n 3, 1) := by decide +kernel
theorem d_L_law_306 : decode code 306 = .ok (.iconst 1, 1) := by decide +kernel
theorem d_L_law_307 : decode code 307 = .ok (.iadd, 1) := by decide +kernel
theorem d_L_law_308 : decode code 308 = .ok (.iaload, 1) := by decide +kernel
theorem d_L_law_309 : decode code 309 = .ok (.aload_n 0, 1) := by decide +kernel
theorem d_L_law_310 : decode code 310 = .ok (.iload_n 3, 1) := by decide +kernel
theorem d_L_law_311 : decode code 311 = .ok (.iconst 2, 1) := by decide +kernel
theorem d_L_law_312 : decode code 312 = .ok (.iadd, 1) := by decide +kernel
theorem d_L_law_313 : decode code 313 = .ok (.iaload, 1) := by decide +kernel
theorem d_L_law_314 : decode code 314 = .ok (.aload_n 0, 1) := by decide +kernel
theorem d_L_law_315 : decode code 315 = .ok (.iload_n 3, 1) := by decide +kernel
theorem d_L_law_316 : decode code 316 = .ok (.iconst 3, 1) := by decide +kernel
theorem d_L_law_317 : decode code 317 = .ok (.iadd, 1) := by decide +kernel
theorem d_L_law_318 : decode code 318 = .ok (.iaload, 1) := by decide +kernel
theorem d_L_law_319 : decode code 319 = .ok (.invokevirtual 42, 3) := by decide +kernel
theorem d_L_law_322 : decode code 322 = .ok (.if_icmp .eq 353, 3) := by decide +kernel
theorem d_L_law_325 : decode code 325 = .ok (.iconst 0, 1) := by decide +kernel
theorem d_L_law_326 : decode code 326 = .ok (.ireturn, 1) := by decide +kernel
theorem d_L_law_327 : decode code 327 = .ok (.aload_n 1, 1) := by decide +kernel
theorem d_L_law_328 : decode code 328 = .ok (.aload_n 0, 1) := by decide +kernel
theorem d_L_law_329 : decode code 329 = .ok (.iload_n 3, 1) := by decide +kernel
theorem d_L_law_330 : decode code 330 = .ok (.iconst 1, 1) := by decide +kernel
theorem d_L_law_331 : decode code 331 = .ok (.iadd, 1) := by decide +kernel
theorem d_L_law_332 : decode code 332 = .ok (.iaload, 1) := by decide +kernel
theorem d_L_law_333 : decode code 333 = .ok (.aload_n 0, 1) := by decide +kernel
theorem d_L_law_334 : decode code 334 = .ok (.iload_n 3, 1) := by decide +kernel
theorem d_L_law_335 : decode code 335 = .ok (.iconst 2, 1) := by decide +kernel
theorem d_L_law_336 : decode code 336 = .ok (.iadd, 1) := by decide +kernel
theorem d_L_law_337 : decode code 337 = .ok (.iaload, 1) := by decide +kernel
theorem d_L_law_338 : decode code 338 = .ok (.aload_n 0, 1) := by decide +kernel
theorem d_L_law_339 : decode code 339 = .ok (.iload_n 3, 1) := by decide +kernel
theorem d_L_law_340 : decode code 340 = .ok (.iconst 3, 1) := by decide +kernel
theorem d_L_law_341 : decode code 341 = .ok (.iadd, 1) := by decide +kernel
theorem d_L_law_342 : decode code 342 = .ok (.iaload, 1) := by decide +kernel
theorem d_L_law_343 : decode code 343 = .ok (.invokevirtual 43, 3) := by decide +kernel
theorem d_L_law_346 : decode code 346 = .ok (.aload_n 2, 1) := by decide +kernel
theorem d_L_law_347 : decode code 347 = .ok (.aload_n 0, 1) := by decide +kernel
theorem d_L_law_348 : decode code 348 = .ok (.iload_n 3, 1) := by decide +kernel
theorem d_L_law_349 : decode code 349 = .ok (.iconst 1, 1) := by decide +kernel
theorem d_L_law_350 : decode code 350 = .ok (.iadd, 1) := by decide +kernel
theorem d_L_law_351 : decode code 351 = .ok (.iaload, 1) := by decide +kernel
theorem d_L_law_352 : decode code 352 = .ok (.aload_n 0, 1) := by decide +kernel
theorem d_L_law_353 : decode code 353 = .ok (.iload_n 3, 1) := by decide +kernel
theorem d_L_law_354 : decode code 354 = .ok (.iconst 2, 1) := by decide +kernel
theorem d_L_law_355 : decode code 355 = .ok (.iadd, 1) := by decide +kernel
theorem d_L_law_356 : decode code 356 = .ok (.iaload, 1) := by decide +kernel
theorem d_L_law_357 : decode code 357 = .ok (.aload_n 0, 1) := by decide +kernel
theorem d_L_law_358 : decode code 358 = .ok (.iload_n 3, 1) := by decide +kernel
theorem d_L_law_359 : decode code 359 = .ok (.iconst 3, 1) := by decide +kernel
theorem d_L_law_360 : decode code 360 = .ok (.iadd, 1) := by decide +kernel
theorem d_L_law_361 : decode code 361 = .ok (.iaload, 1) := by decide +kernel
theorem d_L_law_362 : decode code 362 = .ok (.invokevirtual 46, 3) := by decide +kernel
theorem d_L_law_365 : decode code 365 = .ok (.if_icmp .eq 310, 3) := by decide +kernel
theorem d_L_law_368 : decode code 368 = .ok (.iconst 0, 1) := by decide +kernel
theorem d_L_law_369 : decode code 369 = .ok (.ireturn, 1) := by decide +kernel
theorem d_L_law_370 : decode code 370 = .ok (.aload_n 1, 1) := by decide +kernel
theorem d_L_law_371 : decode code 371 = .ok (.aload_n 0, 1) := by decide +kernel
theorem d_L_law_372 : decode code 372 = .ok (.iload_n 3, 1) := by decide +kernel
theorem d_L_law_373 : decode code 373 = .ok (.iconst 1, 1) := by decide +kernel
theorem d_L_law_374 : decode code 374 = .ok (.iadd, 1) := by decide +kernel
theorem d_L_law_375 : decode code 375 = .ok (.iaload, 1) := by decide +kernel
theorem d_L_law_376 : decode code 376 = .ok (.invokevirtual 47, 3) := by decide +kernel
theorem d_L_law_379 : decode code 379 = .ok (.aload_n 2, 1) := by decide +kernel
theorem d_L_law_380 : decode code 380 = .ok (.aload_n 0, 1) := by decide +kernel
theorem d_L_law_381 : decode code 381 = .ok (.iload_n 3, 1) := by decide +kernel
theorem d_L_law_382 : decode code 382 = .ok (.iconst 1, 1) := by decide +kernel
theorem d_L_law_383 : decode code 383 = .ok (.iadd, 1) := by decide +kernel
theorem d_L_law_384 : decode code 384 = .ok (.iaload, 1) := by decide +kernel
theorem d_L_law_385 : decode code 385 = .ok (.invokevirtual 51, 3) := by decide +kernel
theorem d_L_law_388 : decode code 388 = .ok (.if_icmp .eq 287, 3) := by decide +kernel
theorem d_L_law_391 : decode code 391 = .ok (.iconst 0, 1) := by decide +kernel
theorem d_L_law_392 : decode code 392 = .ok (.ireturn, 1) := by decide +kernel
theorem d_L_law_393 : decode code 393 = .ok (.aload_n 1, 1) := by decide +kernel
theorem d_L_law_394 : decode code 394 = .ok (.aload_n 0, 1) := by decide +kernel
theorem d_L_law_395 : decode code 395 = .ok (.iload_n 3, 1) := by decide +kernel
theorem d_L_law_396 : decode code 396 = .ok (.iconst 1, 1) := by decide +kernel
theorem d_L_law_397 : decode code 397 = .ok (.iadd, 1) := by decide +kernel
theorem d_L_law_398 : decode code 398 = .ok (.iaload, 1) := by decide +kernel
theorem d_L_law_399 : decode code 399 = .ok (.invokevirtual 52, 3) := by decide +kernel
theorem d_L_law_402 : decode code 402 = .ok (.aload_n 2, 1) := by decide +kernel
theorem d_L_law_403 : decode code 403 = .ok (.aload_n 0, 1) := by decide +kernel
theorem d_L_law_404 : decode code 404 = .ok (.iload_n 3, 1) := by decide +kernel
theorem d_L_law_405 : decode code 405 = .ok (.iconst 1, 1) := by decide +kernel
theorem d_L_law_406 : decode code 406 = .ok (.iadd, 1) := by decide +kernel
theorem d_L_law_407 : decode code 407 = .ok (.iaload, 1) := by decide +kernel
theorem d_L_law_408 : decode code 408 = .ok (.invokevirtual 55, 3) := by decide +kernel
theorem d_L_law_411 : decode code 411 = .ok (.if_icmp .eq 264, 3) := by decide +kernel
theorem d_L_law_414 : decode code 414 = .ok (.iconst 0, 1) := by decide +kernel
theorem d_L_law_415 : decode code 415 = .ok (.ireturn, 1) := by decide +kernel
theorem d_L_law_416 : decode code 416 = .ok (.aload_n 1, 1) := by decide +kernel
theorem d_L_law_417 : decode code 417 = .ok (.aload_n 0, 1) := by decide +kernel
theorem d_L_law_418 : decode code 418 = .ok (.iload_n 3, 1) := by decide +kernel
theorem d_L_law_419 : decode code 419 = .ok (.iconst 1, 1) := by decide +kernel
theorem d_L_law_420 : decode code 420 = .ok (.iadd, 1) := by decide +kernel
theorem d_L_law_421 : decode code 421 = .ok (.iaload, 1) := by decide +kernel
theorem d_L_law_422 : decode code 422 = .ok (.aload_n 0, 1) := by decide +kernel
theorem d_L_law_423 : decode code 423 = .ok (.iload_n 3, 1) := by decide +kernel
theorem d_L_law_424 : decode code 424 = .ok (.iconst 2, 1) := by decide +kernel
theorem d_L_law_425 : decode code 425 = .ok (.iadd, 1) := by decide +kernel
theorem d_L_law_426 : decode code 426 = .ok (.iaload, 1) := by decide +kernel
theorem d_L_law_427 : decode code 427 = .ok (.aload_n 0, 1) := by decide +kernel
theorem d_L_law_428 : decode code 428 = .ok (.iload_n 3, 1) := by decide +kernel
theorem d_L_law_429 : decode code 429 = .ok (.iconst 3, 1) := by decide +kernel
theorem d_L_law_430 : decode code 430 = .ok (.iadd, 1) := by decide +kernel
theorem d_L_law_431 : decode code 431 = .ok (.iaload, 1) := by decide +kernel
theorem d_L_law_432 : decode code 432 = .ok (.invokevirtual 56, 3) := by decide +kernel
theorem d_L_law_435 : decode code 435 = .ok (.aload_n 2, 1) := by decide +kernel
theorem d_L_law_436 : decode code 436 = .ok (.aload_n 0, 1) := by decide +kernel
theorem d_L_law_437 : decode code 437 = .ok (.iload_n 3, 1) := by decide +kernel
theorem d_L_law_438 : decode code 438 = .ok (.iconst 1, 1) := by decide +kernel
theorem d_L_law_439 : decode code 439 = .ok (.iadd, 1) := by decide +kernel
theorem d_L_law_440 : decode code 440 = .ok (.iaload, 1) := by decide +kernel
theorem d_L_law_441 : decode code 441 = .ok (.aload_n 0, 1) := by decide +kernel
theorem d_L_law_442 : decode code 442 = .ok (.iload_n 3, 1) := by decide +kernel
theorem d_L_law_443 : decode code 443 = .ok (.iconst 2, 1) := by decide +kernel
theorem d_L_law_444 : decode code 444 = .ok (.iadd, 1) := by decide +kernel
theorem d_L_law_445 : decode code 445 = .ok (.iaload, 1) := by decide +kernel
theorem d_L_law_446 : decode code 446 = .ok (.aload_n 0, 1) := by decide +kernel
theorem d_L_law_447 : decode code 447 = .ok (.iload_n 3, 1) := by decide +kernel
theorem d_L_law_448 : decode code 448 = .ok (.iconst 3, 1) := by decide +kernel
theorem d_L_law_449 : decode code 449 = .ok (.iadd, 1) := by decide +kernel
theorem d_L_law_450 : decode code 450 = .ok (.iaload, 1) := by decide +kernel
theorem d_L_law_451 : decode code 451 = .ok (.invokevirtual 59, 3) := by decide +kernel
theorem d_L_law_454 : decode code 454 = .ok (.if_icmp .eq 221, 3) := by decide +kernel
theorem d_L_law_457 : decode code 457 = .ok (.iconst 0, 1) := by decide +kernel
theorem d_L_law_458 : decode code 458 = .ok (.ireturn, 1) := by decide +kernel
theorem d_L_law_459 : decode code 459 = .ok (.aload_n 1, 1) := by decide +kernel
theorem d_L_law_460 : decode code 460 = .ok (.aload_n 0, 1) := by decide +kernel
theorem d_L_law_461 : decode code 461 = .ok (.iload_n 3, 1) := by decide +kernel
theorem d_L_law_462 : decode code 462 = .ok (.iconst 1, 1) := by decide +kernel
theorem d_L_law_463 : decode code 463 = .ok (.iadd, 1) := by decide +kernel
theorem d_L_law_464 : decode code 464 = .ok (.iaload, 1) := by decide +kernel
theorem d_L_law_465 : decode code 465 = .ok (.invokevirtual 60, 3) := by decide +kernel
theorem d_L_law_468 : decode code 468 = .ok (.aload_n 2, 1) := by decide +kernel
theorem d_L_law_469 : decode code 469 = .ok (.aload_n 0, 1) := by decide +kernel
theorem d_L_law_470 : decode code 470 = .ok (.iload_n 3, 1) := by decide +kernel
theorem d_L_law_471 : decode code 471 = .ok (.iconst 1, 1) := by decide +kernel
theorem d_L_law_472 : decode code 472 = .ok (.iadd, 1) := by decide +kernel
theorem d_L_law_473 : decode code 473 = .ok (.iaload, 1) := by decide +kernel
theorem d_L_law_474 : decode code 474 = .ok (.invokevirtual 63, 3) := by decide +kernel
theorem d_L_law_477 : decode code 477 = .ok (.if_icmp .eq 198, 3) := by decide +kernel
theorem d_L_law_480 : decode code 480 = .ok (.iconst 0, 1) := by decide +kernel
theorem d_L_law_481 : decode code 481 = .ok (.ireturn, 1) := by decide +kernel
theorem d_L_law_482 : decode code 482 = .ok (.aload_n 1, 1) := by decide +kernel
theorem d_L_law_483 : decode code 483 = .ok (.aload_n 0, 1) := by decide +kernel
theorem d_L_law_484 : decode code 484 = .ok (.iload_n 3, 1) := by decide +kernel
theorem d_L_law_485 : decode code 485 = .ok (.iconst 1, 1) := by decide +kernel
theorem d_L_law_486 : decode code 486 = .ok (.iadd, 1) := by decide +kernel
theorem d_L_law_487 : decode code 487 = .ok (.iaload, 1) := by decide +kernel
theorem d_L_law_488 : decode code 488 = .ok (.invokevirtual 64, 3) := by decide +kernel
theorem d_L_law_491 : decode code 491 = .ok (.aload_n 2, 1) := by decide +kernel
theorem d_L_law_492 : decode code 492 = .ok (.aload_n 0, 1) := by decide +kernel
theorem d_L_law_493 : decode code 493 = .ok (.iload_n 3, 1) := by decide +kernel
theorem d_L_law_494 : decode code 494 = .ok (.iconst 1, 1) := by decide +kernel
theorem d_L_law_495 : decode code 495 = .ok (.iadd, 1) := by decide +kernel
theorem d_L_law_496 : decode code 496 = .ok (.iaload, 1) := by decide +kernel
theorem d_L_law_497 : decode code 497 = .ok (.invokevirtual 68, 3) := by decide +kernel
theorem d_L_law_500 : decode code 500 = .ok (.if_icmp .eq 175, 3) := by decide +kernel
theorem d_L_law_503 : decode code 503 = .ok (.iconst 0, 1) := by decide +kernel
theorem d_L_law_504 : decode code 504 = .ok (.ireturn, 1) := by decide +kernel
theorem d_L_law_505 : decode code 505 = .ok (.aload_n 1, 1) := by decide +kernel
theorem d_L_law_506 : decode code 506 = .ok (.aload_n 0, 1) := by decide +kernel
theorem d_L_law_507 : decode code 507 = .ok (.iload_n 3, 1) := by decide +kernel
theorem d_L_law_508 : decode code 508 = .ok (.iconst 1, 1) := by decide +kernel
theorem d_L_law_509 : decode code 509 = .ok (.iadd, 1) := by decide +kernel
theorem d_L_law_510 : decode code 510 = .ok (.iaload, 1) := by decide +kernel
theorem d_L_law_511 : decode code 511 = .ok (.aload_n 0, 1) := by decide +kernel
theorem d_L_law_512 : decode code 512 = .ok (.iload_n 3, 1) := by decide +kernel
theorem d_L_law_513 : decode code 513 = .ok (.iconst 2, 1) := by decide +kernel
theorem d_L_law_514 : decode code 514 = .ok (.iadd, 1) := by decide +kernel
theorem d_L_law_515 : decode code 515 = .ok (.iaload, 1) := by decide +kernel
theorem d_L_law_516 : decode code 516 = .ok (.invokevirtual 69, 3) := by decide +kernel
theorem d_L_law_519 : decode code 519 = .ok (.aload_n 2, 1) := by decide +kernel
theorem d_L_law_520 : decode code 520 = .ok (.aload_n 0, 1) := by decide +kernel
theorem d_L_law_521 : decode code 521 = .ok (.iload_n 3, 1) := by decide +kernel
theorem d_L_law_522 : decode code 522 = .ok (.iconst 1, 1) := by decide +kernel
theorem d_L_law_523 : decode code 523 = .ok (.iadd, 1) := by decide +kernel
theorem d_L_law_524 : decode code 524 = .ok (.iaload, 1) := by decide +kernel
theorem d_L_law_525 : decode code 525 = .ok (.aload_n 0, 1) := by decide +kernel
theorem d_L_law_526 : decode code 526 = .ok (.iload_n 3, 1) := by decide +kernel
theorem d_L_law_527 : decode code 527 = .ok (.iconst 2, 1) := by decide +kernel
theorem d_L_law_528 : decode code 528 = .ok (.iadd, 1) := by decide +kernel
theorem d_L_law_529 : decode code 529 = .ok (.iaload, 1) := by decide +kernel
theorem d_L_law_530 : decode code 530 = .ok (.invokevirtual 73, 3) := by decide +kernel
theorem d_L_law_533 : decode code 533 = .ok (.lcmp, 1) := by decide +kernel
theorem d_L_law_534 : decode code 534 = .ok (.ifCond .eq 141, 3) := by decide +kernel
theorem d_L_law_537 : decode code 537 = .ok (.iconst 0, 1) := by decide +kernel
theorem d_L_law_538 : decode code 538 = .ok (.ireturn, 1) := by decide +kernel
theorem d_L_law_539 : decode code 539 = .ok (.aload_n 1, 1) := by decide +kernel
theorem d_L_law_540 : decode code 540 = .ok (.aload_n 0, 1) := by decide +kernel
theorem d_L_law_541 : decode code 541 = .ok (.iload_n 3, 1) := by decide +kernel
theorem d_L_law_542 : decode code 542 = .ok (.iconst 1, 1) := by decide +kernel
theorem d_L_law_543 : decode code 543 = .ok (.iadd, 1) := by decide +kernel
theorem d_L_law_544 : decode code 544 = .ok (.iaload, 1) := by decide +kernel
theorem d_L_law_545 : decode code 545 = .ok (.invokevirtual 74, 3) := by decide +kernel
theorem d_L_law_548 : decode code 548 = .ok (.aload_n 2, 1) := by decide +kernel
theorem d_L_law_549 : decode code 549 = .ok (.aload_n 0, 1) := by decide +kernel
theorem d_L_law_550 : decode code 550 = .ok (.iload_n 3, 1) := by decide +kernel
theorem d_L_law_551 : decode code 551 = .ok (.iconst 1, 1) := by decide +kernel
theorem d_L_law_552 : decode code 552 = .ok (.iadd, 1) := by decide +kernel
theorem d_L_law_553 : decode code 553 = .ok (.iaload, 1) := by decide +kernel
theorem d_L_law_554 : decode code 554 = .ok (.invokevirtual 78, 3) := by decide +kernel
theorem d_L_law_557 : decode code 557 = .ok (.lcmp, 1) := by decide +kernel
theorem d_L_law_558 : decode code 558 = .ok (.ifCond .eq 117, 3) := by decide +kernel
theorem d_L_law_561 : decode code 561 = .ok (.iconst 0, 1) := by decide +kernel
theorem d_L_law_562 : decode code 562 = .ok (.ireturn, 1) := by decide +kernel
theorem d_L_law_563 : decode code 563 = .ok (.aload_n 1, 1) := by decide +kernel
theorem d_L_law_564 : decode code 564 = .ok (.aload_n 0, 1) := by decide +kernel
theorem d_L_law_565 : decode code 565 = .ok (.iload_n 3, 1) := by decide +kernel
theorem d_L_law_566 : decode code 566 = .ok (.iconst 1, 1) := by decide +kernel
theorem d_L_law_567 : decode code 567 = .ok (.iadd, 1) := by decide +kernel
theorem d_L_law_568 : decode code 568 = .ok (.iaload, 1) := by decide +kernel
theorem d_L_law_569 : decode code 569 = .ok (.invokevirtual 79, 3) := by decide +kernel
theorem d_L_law_572 : decode code 572 = .ok (.aload_n 2, 1) := by decide +kernel
theorem d_L_law_573 : decode code 573 = .ok (.aload_n 0, 1) := by decide +kernel
theorem d_L_law_574 : decode code 574 = .ok (.iload_n 3, 1) := by decide +kernel
theorem d_L_law_575 : decode code 575 = .ok (.iconst 1, 1) := by decide +kernel
theorem d_L_law_576 : decode code 576 = .ok (.iadd, 1) := by decide +kernel
theorem d_L_law_577 : decode code 577 = .ok (.iaload, 1) := by decide +kernel
theorem d_L_law_578 : decode code 578 = .ok (.invokevirtual 82, 3) := by decide +kernel
theorem d_L_law_581 : decode code 581 = .ok (.lcmp, 1) := by decide +kernel
theorem d_L_law_582 : decode code 582 = .ok (.ifCond .eq 93, 3) := by decide +kernel
theorem d_L_law_585 : decode code 585 = .ok (.iconst 0, 1) := by decide +kernel
theorem d_L_law_586 : decode code 586 = .ok (.ireturn, 1) := by decide +kernel
theorem d_L_law_587 : decode code 587 = .ok (.aload_n 1, 1) := by decide +kernel
theorem d_L_law_588 : decode code 588 = .ok (.invokevirtual 83, 3) := by decide +kernel
theorem d_L_law_591 : decode code 591 = .ok (.aload_n 2, 1) := by decide +kernel
theorem d_L_law_592 : decode code 592 = .ok (.invokevirtual 87, 3) := by decide +kernel
theorem d_L_law_595 : decode code 595 = .ok (.if_icmp .eq 80, 3) := by decide +kernel
theorem d_L_law_598 : decode code 598 = .ok (.iconst 0, 1) := by decide +kernel
theorem d_L_law_599 : decode code 599 = .ok (.ireturn, 1) := by decide +kernel
theorem d_L_law_600 : decode code 600 = .ok (.aload_n 1, 1) := by decide +kernel
theorem d_L_law_601 : decode code 601 = .ok (.invokevirtual 88, 3) := by decide +kernel
theorem d_L_law_604 : decode code 604 = .ok (.aload_n 2, 1) := by decide +kernel
theorem d_L_law_605 : decode code 605 = .ok (.invokevirtual 91, 3) := by decide +kernel
theorem d_L_law_608 : decode code 608 = .ok (.if_icmp .eq 67, 3) := by decide +kernel
theorem d_L_law_611 : decode code 611 = .ok (.iconst 0, 1) := by decide +kernel
theorem d_L_law_612 : decode code 612 = .ok (.ireturn, 1) := by decide +kernel
theorem d_L_law_613 : decode code 613 = .ok (.aload_n 1, 1) := by decide +kernel
theorem d_L_law_614 : decode code 614 = .ok (.aload_n 0, 1) := by decide +kernel
theorem d_L_law_615 : decode code 615 = .ok (.iload_n 3, 1) := by decide +kernel
theorem d_L_law_616 : decode code 616 = .ok (.iconst 1, 1) := by decide +kernel
theorem d_L_law_617 : decode code 617 = .ok (.iadd, 1) := by decide +kernel
theorem d_L_law_618 : decode code 618 = .ok (.iaload, 1) := by decide +kernel
theorem d_L_law_619 : decode code 619 = .ok (.invokevirtual 92, 3) := by decide +kernel
theorem d_L_law_622 : decode code 622 = .ok (.aload_n 2, 1) := by decide +kernel
theorem d_L_law_623 : decode code 623 = .ok (.aload_n 0, 1) := by decide +kernel
theorem d_L_law_624 : decode code 624 = .ok (.iload_n 3, 1) := by decide +kernel
theorem d_L_law_625 : decode code 625 = .ok (.iconst 1, 1) := by decide +kernel
theorem d_L_law_626 : decode code 626 = .ok (.iadd, 1) := by decide +kernel
theorem d_L_law_627 : decode code 627 = .ok (.iaload, 1) := by decide +kernel
theorem d_L_law_628 : decode code 628 = .ok (.invokevirtual 95, 3) := by decide +kernel
theorem d_L_law_631 : decode code 631 = .ok (.lcmp, 1) := by decide +kernel
theorem d_L_law_632 : decode code 632 = .ok (.ifCond .eq 43, 3) := by decide +kernel
theorem d_L_law_635 : decode code 635 = .ok (.iconst 0, 1) := by decide +kernel
theorem d_L_law_636 : decode code 636 = .ok (.ireturn, 1) := by decide +kernel
theorem d_L_law_637 : decode code 637 = .ok (.aload_n 1, 1) := by decide +kernel
theorem d_L_law_638 : decode code 638 = .ok (.aload_n 0, 1) := by decide +kernel
theorem d_L_law_639 : decode code 639 = .ok (.iload_n 3, 1) := by decide +kernel
theorem d_L_law_640 : decode code 640 = .ok (.iconst 1, 1) := by decide +kernel
theorem d_L_law_641 : decode code 641 = .ok (.iadd, 1) := by decide +kernel
theorem d_L_law_642 : decode code 642 = .ok (.iaload, 1) := by decide +kernel
theorem d_L_law_643 : decode code 643 = .ok (.invokevirtual 96, 3) := by decide +kernel
theorem d_L_law_646 : decode code 646 = .ok (.aload_n 2, 1) := by decide +kernel
theorem d_L_law_647 : decode code 647 = .ok (.aload_n 0, 1) := by decide +kernel
theorem d_L_law_648 : decode code 648 = .ok (.iload_n 3, 1) := by decide +kernel
theorem d_L_law_649 : decode code 649 = .ok (.iconst 1, 1) := by decide +kernel
theorem d_L_law_650 : decode code 650 = .ok (.iadd, 1) := by decide +kernel
theorem d_L_law_651 : decode code 651 = .ok (.iaload, 1) := by decide +kernel
theorem d_L_law_652 : decode code 652 = .ok (.invokevirtual 99, 3) := by decide +kernel
theorem d_L_law_655 : decode code 655 = .ok (.lcmp, 1) := by decide +kernel
theorem d_L_law_656 : decode code 656 = .ok (.ifCond .eq 19, 3) := by decide +kernel
theorem d_L_law_659 : decode code 659 = .ok (.iconst 0, 1) := by decide +kernel
theorem d_L_law_660 : decode code 660 = .ok (.ireturn, 1) := by decide +kernel
theorem d_L_law_661 : decode code 661 = .ok (.aload_n 1, 1) := by decide +kernel
theorem d_L_law_662 : decode code 662 = .ok (.invokevirtual 100, 3) := by decide +kernel
theorem d_L_law_665 : decode code 665 = .ok (.aload_n 2, 1) := by decide +kernel
theorem d_L_law_666 : decode code 666 = .ok (.invokevirtual 104, 3) := by decide +kernel
theorem d_L_law_669 : decode code 669 = .ok (.lcmp, 1) := by decide +kernel
theorem d_L_law_670 : decode code 670 = .ok (.ifCond .eq 5, 3) := by decide +kernel
theorem d_L_law_673 : decode code 673 = .ok (.iconst 0, 1) := by decide +kernel
theorem d_L_law_674 : decode code 674 = .ok (.ireturn, 1) := by decide +kernel
theorem d_L_law_675 : decode code 675 = .ok (.iinc 3 4, 3) := by decide +kernel
theorem d_L_law_678 : decode code 678 = .ok (.goto (-650), 3) := by decide +kernel
theorem d_L_law_681 : decode code 681 = .ok (.iconst 1, 1) := by decide +kernel
theorem d_L_law_682 : decode code 682 = .ok (.ireturn, 1) := by decide +kernel
end
section
/-! WORLDS BY PLACES: a world of n cells, the k-th at the address 'ad k' with the contents 'E k' -/
abbrev wG : Type := va_G × (Nat → ClassId)
/-! the array classes of the system, by number -/
abbrev tJ : Nat := 0
abbrev tI : Nat := 1
abbrev tL : Nat := 2
abbrev tK : Nat := 3
abbrev ciX : Nat := 0
abbrev ciFan : Nat := 1
abbrev ciKind : Nat := 2
abbrev ciLay : Nat := 3
abbrev ciM : Nat := 4
def wtys (g : wG) : List (ClassId × FieldType) := [(g.2 tJ, .long), (g.2 tI, .int), (g.2 tL, .object "HeapSteps$Layer"), (g.2 tK, .object "HeapSteps$Kind")]
def wo (n : Nat) (ad : Nat → Nat) (E : Nat → va_E) : va_W := (List.range n).map (fun k => (ad k, E k))
theorem wo_at {n : Nat} {ad : Nat → Nat} {E : Nat → va_E} {k : Nat} {e : va_E} (hk : k < n) (he : E k = e) : (wo n ad E)[k]? = some (ad k, e) := by
  subst he
  simp [wo, hk]
theorem wo_lt {n : Nat} {ad : Nat → Nat} {E : Nat → va_E} {k : Nat} {q : Nat × va_E} (h : (wo n ad E)[k]? = some q) : k < n ∧ q = (ad k, E k) := by
  have hl := (List.getElem?_eq_some_iff.mp h).1
  have hk : k < n := by simpa [wo] using hl
  rw [wo_at hk rfl] at h
  exact ⟨hk, (Option.some.inj h).symm⟩
def wJ (n : Nat) (ad : Nat → Nat) : Prop := ∀ i j : Nat, i < n → j < n → ad i = ad j → i = j
def wA (n : Nat) (ad : Nat → Nat) (sz : Nat) : Nat → Prop := fun q => (∃ k, k < n ∧ ad k = q) ∨ sz ≤ q
theorem wA_at {n : Nat} {ad : Nat → Nat} {sz k : Nat} (hk : k < n) : wA n ad sz (ad k) := Or.inl ⟨k, hk, rfl⟩
theorem wo_D {n : Nat} {ad : Nat → Nat} {E : Nat → va_E} {A : Nat → Prop} (hJ : wJ n ad) (hA : ∀ k, k < n → A (ad k)) : va_D A (wo n ad E) := by
  refine ⟨fun i j x y hx hy hxy => ?_, fun k q hq => ?_⟩
  · obtain ⟨a, rfl⟩ := wo_lt hx
    obtain ⟨b, rfl⟩ := wo_lt hy
    exact hJ i j a b hxy
  · obtain ⟨a, rfl⟩ := wo_lt hq
    exact hA k a
def wU (E E' : Nat → va_E) (k : Nat) (e : va_E) : Prop := E' k = e ∧ ∀ j, j ≠ k → E' j = E j
theorem wo_set {n : Nat} {ad : Nat → Nat} {E E' : Nat → va_E} {k : Nat} {e : va_E} (hk : k < n) (h : wU E E' k e) : (wo n ad E).set k (ad k, e) = wo n ad E' := by
  apply List.ext_getElem?
  intro j
  by_cases hj : j = k
  · subst hj
    rw [List.getElem?_set_self (by simpa [wo] using hk), wo_at hk h.1]
  · rw [List.getElem?_set_ne (Ne.symm hj)]
    by_cases hn : j < n
    · rw [wo_at hn rfl, wo_at hn (h.2 j hj)]
    · rw [List.getElem?_eq_none (by simp [wo]; omega), List.getElem?_eq_none (by simp [wo]; omega)]
theorem wo_congr {n : Nat} {ad ad' : Nat → Nat} {E E' : Nat → va_E} (ha : ∀ k, k < n → ad k = ad' k) (h : ∀ k, k < n → E k = E' k) : wo n ad E = wo n ad' E' := by
  apply List.map_congr_left
  intro k hk
  have hk := List.mem_range.mp hk
  rw [ha k hk, h k hk]
theorem wo_push {n : Nat} {ad : Nat → Nat} {E : Nat → va_E} (q : Nat) (e : va_E) : wo n ad E ++ [(q, e)] = wo (n + 1) (va_up ad n q) (va_up E n e) := by
  unfold wo
  rw [List.range_succ, List.map_append]
  congr 1
  · apply List.map_congr_left
    intro k hk
    have hk := List.mem_range.mp hk
    rw [va_up_ne _ _ (by omega), va_up_ne _ _ (by omega)]
  · simp [va_up]
theorem wJ_push {n : Nat} {ad : Nat → Nat} {A : Nat → Prop} {E : Nat → va_E} (h : va_D A (wo n ad E)) : wJ n ad := fun i j hi hj e => h.1 i j _ _ (wo_at hi rfl) (wo_at hj rfl) e
/-- what a method of the system needs at its start, and what it leaves -/
def wPre (g : wG) (n : Nat) (ad : Nat → Nat) (E : Nat → va_E) (sz : Nat) (U : State) : Prop := U.heap.size = sz ∧ va_P g.1 vwCl (wo n ad E) U.heap ∧ va_K g.1 vwCl (wtys g) U ∧ wN U ∧ wJ n ad
def CtI (l : Launch) (y : MethodName) (ws : List Cond) (rm : Room) (g : wG) (n : Nat) (ad : Nat → Nat) (E E' : Nat → va_E) (As : List Value) (r : Int32) : Prop :=
  ∀ sz : Nat, Met l y ws rm (va_Pc As (wPre g n ad E sz)) (va_Qi (fun x (_ : Unit) => x = r) (fun _ t => va_P g.1 vwCl (wo n ad E') t.heap) (wA n ad sz)) 0 0 (wA n ad sz)
def CtL (l : Launch) (y : MethodName) (ws : List Cond) (rm : Room) (g : wG) (n : Nat) (ad : Nat → Nat) (E E' : Nat → va_E) (As : List Value) (r : Int64) : Prop :=
  ∀ sz : Nat, Met l y ws rm (va_Pc As (wPre g n ad E sz)) (va_Ql (fun x (_ : Unit) => x = r) (fun _ t => va_P g.1 vwCl (wo n ad E') t.heap) (wA n ad sz)) 0 0 (wA n ad sz)
def CtV (l : Launch) (y : MethodName) (ws : List Cond) (rm : Room) (g : wG) (n : Nat) (ad : Nat → Nat) (E E' : Nat → va_E) (As : List Value) : Prop :=
  ∀ sz : Nat, Met l y ws rm (va_Pc As (wPre g n ad E sz)) (va_Qv (fun (_ : Unit) => True) (fun _ t => va_P g.1 vwCl (wo n ad E') t.heap) (wA n ad sz)) 0 0 (wA n ad sz)
def CtQ (l : Launch) (y : MethodName) (ws : List Cond) (rm : Room) (g : wG) (n : Nat) (ad : Nat → Nat) (E E' : Nat → va_E) (As : List Value) (r : Option Nat) : Prop :=
  ∀ sz : Nat, Met l y ws rm (va_Pc As (wPre g n ad E sz)) (va_Qq (fun x (_ : Unit) => x = r) (fun _ t => va_P g.1 vwCl (wo n ad E') t.heap) (wA n ad sz)) 0 0 (wA n ad sz)
theorem tb_ok {w : Cond} (h : w ∈ tb) : w ∈ tb ∧ ((w.onTables && w.keeps) = true ∨ ∃ ty, w = .arrayClass ty) := ⟨h, good_of_word (tb_good w h)⟩
theorem gd_C {y : MethodName} {cc : ByteArray} {n : Nat} {r : Option FieldType} (h5 : Cond.code y cc n r ∈ tb) : GoodIn tb (Cond.code y cc n r :: tb) := by
  intro w hw
  rcases List.mem_cons.mp hw with rfl | h
  · exact tb_ok h5
  · exact tb_ok h
theorem gd_S {own : String} {idx : Nat} {y : MethodName} {cc : ByteArray} {n : Nat} {r : Option FieldType} (h1 : Cond.methodLink own idx y ∈ tb) (h2 : Cond.static y ∈ tb) (h3 : Cond.initialized own ∈ tb) (h5 : Cond.code y cc n r ∈ tb) : GoodIn tb (wsS own idx y (Cond.code y cc n r :: tb)) := by
  intro w hw
  unfold wsS at hw
  rcases List.mem_append.mp hw with h | h
  · rcases List.mem_cons.mp h with rfl | h
    · exact tb_ok h1
    · rcases List.mem_cons.mp h with rfl | h
      · exact tb_ok h2
      · rw [List.mem_singleton.mp h]; exact tb_ok h3
  · exact gd_C h5 w h
theorem gd_V {own : String} {idx : Nat} {C : String} {y : MethodName} {cc : ByteArray} {n : Nat} {r : Option FieldType} (h1 : Cond.methodLink own idx y ∈ tb) (h2 : Cond.instanceMethod y ∈ tb) (h3 : Cond.selects C y y ∈ tb) (h4 : Cond.initialized C ∈ tb) (h5 : Cond.code y cc n r ∈ tb) : GoodIn tb (wsV own idx C y (Cond.code y cc n r :: tb)) := by
  intro w hw
  unfold wsV at hw
  rcases List.mem_append.mp hw with h | h
  · rcases List.mem_cons.mp h with rfl | h
    · exact tb_ok h1
    · rcases List.mem_cons.mp h with rfl | h
      · exact tb_ok h2
      · rcases List.mem_cons.mp h with rfl | h
        · exact tb_ok h3
        · rw [List.mem_singleton.mp h]; exact tb_ok h4
  · exact gd_C h5 w h
section WR
variable {p : Program} {l : Launch} {e : Env} {R : Room} {s : State} {m : MethodId} {args : Array Value} {below : List Frame} {meth : Method} {c : Code} {H : Heap} {locs : List Loc} {cells slots : Nat} {Q : State → Prop}
variable {cc : ByteArray} {pc : Nat} {ls : Array Slot} {rest st0 : List Value} {g : wG} {n : Nat} {ad : Nat → Nat} {E E' : Nat → va_E} {H0 : Heap} {As : List Value} {a : Array Value}
theorem wr_get (hx : p.tables.exec = Jvm.exec) (hb : c.code = cc) {own C : String} {T : u_T} {N ci index : Nat} {Ts : List Cond} (hts : ∀ w ∈ Ts, w.before args s = true) (hin : ∀ w ∈ u_ws C T N, w ∈ Ts) (hown : s.vm.findClass own = some m.cls) (hK : va_K g.1 vwCl (wtys g) s) (hP : va_P g.1 vwCl (wo n ad E) H) (q0 : Nat) (hq : q0 < n) {fs : List Value} (he : E q0 = .inr (ci, fs)) (hc : vwCl[ci]? = some (C, T, N)) (k : Nat) (hk : k < N) (hlink : (Cond.fieldLink own index (T k).1 (T k).2.1 (T k).2.2.1).before args s = true) {v : Value} (hv : fs[k]? = some v) (hdg : decode cc pc = .ok (.getfield index, 3))
    (kk : W p l e R s m args below meth c H locs cells slots Q (F0 m (pc + 3) ls (v :: rest))) : W p l e R s m args below meth c H locs cells slots Q (F0 m pc ls (.ref (ad q0) :: rest)) :=
  va_get hx hb hts hin hown hK hP q0 (wo_at hq he) hc k hk hlink (fun _ h9 => h9) hv hdg kk
theorem wr_put (hx : p.tables.exec = Jvm.exec) (hb : c.code = cc) {own C : String} {T : u_T} {N ci index : Nat} {Ts : List Cond} (hts : ∀ w ∈ Ts, w.before args s = true) (hin : ∀ w ∈ u_ws C T N, w ∈ Ts) (ty0 : Nat → FieldType) (hty : ∀ k, k < N → parseFieldDescriptor (T k).2.2.1 = some (ty0 k)) (hnm : ∀ a, a < N → ∀ b, b < N → a ≠ b → (T a).2.1 ≠ (T b).2.1) (hown : s.vm.findClass own = some m.cls) (hK : va_K g.1 vwCl (wtys g) s) (hP : va_P g.1 vwCl (wo n ad E) H) (hJ : wJ n ad) (hS : va_S (wA n ad H0.size) H0 H locs) (q0 : Nat) (hq : q0 < n) {fs : List Value} (he : E q0 = .inr (ci, fs)) (hc : vwCl[ci]? = some (C, T, N)) (k : Nat) (hk : k < N) (hlink : (Cond.fieldLink own index (T k).1 (T k).2.1 (T k).2.2.1).before args s = true) (hfin : (T k).2.2.2 = false) {v : Value} (hn : narrow (ty0 k) v = v) (hfit : fits (ty0 k) v = true) (hl : k < fs.length) (hU : wU E E' q0 (.inr (ci, fs.set k v)))
    (hdg : decode cc pc = .ok (.putfield index, 3)) (kk : ∀ (H1 : Heap) (locs1 : List Loc), va_P g.1 vwCl (wo n ad E') H1 → va_S (wA n ad H0.size) H0 H1 locs1 → W p l e R s m args below meth c H1 locs1 cells slots Q (F0 m (pc + 3) ls rest)) : W p l e R s m args below meth c H locs cells slots Q (F0 m pc ls (v :: .ref (ad q0) :: rest)) := by
  refine va_put hx hb hts hin ty0 hty hnm hown hK hP (wo_D hJ (fun k hk => wA_at hk)) hS q0 (wo_at hq he) hc k hk hlink (fun _ h9 => h9) hfin (hty k hk) hn hfit hl hdg (fun H1 locs1 h1 _ h3 => ?_)
  rw [wo_set hq hU] at h1
  exact kk H1 locs1 h1 h3
theorem wr_lald (hx : p.tables.exec = Jvm.exec) (hb : c.code = cc) (hK : va_K g.1 vwCl (wtys g) s) (hP : va_P g.1 vwCl (wo n ad E) H) (q0 t0 : Nat) (hq : q0 < n) {cA : ClassId} {N : Nat} {f : Nat → Int64} (he : E q0 = .inl (cA, N, .inr (.inl f))) (ht : (wtys g)[t0]? = some (cA, .long)) {i : Int32} (j : Nat) (hi : i = nI j) (hj : j < N) (hN : N < 2 ^ 31) (hdg : decode cc pc = .ok (.laload, 1))
    (kk : W p l e R s m args below meth c H locs cells slots Q (F0 m (pc + 1) ls (.long (f j) :: rest))) : W p l e R s m args below meth c H locs cells slots Q (F0 m pc ls (.int i :: .ref (ad q0) :: rest)) := by
  subst hi
  refine va_lald hx hb hK hP q0 t0 (wo_at hq he) ht (vp_in_nI hj hN) hdg ?_
  rw [nI_clamp (by omega)]
  exact kk
theorem wr_iald (hx : p.tables.exec = Jvm.exec) (hb : c.code = cc) (hK : va_K g.1 vwCl (wtys g) s) (hP : va_P g.1 vwCl (wo n ad E) H) (q0 t0 : Nat) (hq : q0 < n) {cA : ClassId} {N : Nat} {f : Nat → Int32} (he : E q0 = .inl (cA, N, .inl f)) (ht : (wtys g)[t0]? = some (cA, .int)) {i : Int32} (j : Nat) (hi : i = nI j) (hj : j < N) (hN : N < 2 ^ 31) (hdg : decode cc pc = .ok (.iaload, 1))
    (kk : W p l e R s m args below meth c H locs cells slots Q (F0 m (pc + 1) ls (.int (f j) :: rest))) : W p l e R s m args below meth c H locs cells slots Q (F0 m pc ls (.int i :: .ref (ad q0) :: rest)) := by
  subst hi
  refine va_iald hx hb hK hP q0 t0 (wo_at hq he) ht (vp_in_nI hj hN) hdg ?_
  rw [nI_clamp (by omega)]
  exact kk
theorem wr_aldq (hx : p.tables.exec = Jvm.exec) (hb : c.code = cc) (hK : va_K g.1 vwCl (wtys g) s) (hP : va_P g.1 vwCl (wo n ad E) H) (q0 t0 : Nat) (hq : q0 < n) {cA : ClassId} {C : String} {N : Nat} {f : Nat → Option Nat} (he : E q0 = .inl (cA, N, .inr (.inr (.inr (.inr f))))) (ht : (wtys g)[t0]? = some (cA, .object C)) {i : Int32} (j : Nat) (hi : i = nI j) (hj : j < N) (hN : N < 2 ^ 31) {v : Nat} (hv : f j = some v) (hdg : decode cc pc = .ok (.aaload, 1))
    (kk : W p l e R s m args below meth c H locs cells slots Q (F0 m (pc + 1) ls (.ref v :: rest))) : W p l e R s m args below meth c H locs cells slots Q (F0 m pc ls (.int i :: .ref (ad q0) :: rest)) := by
  subst hi
  refine va_aldq hx hb hK hP q0 t0 (wo_at hq he) ht (vp_in_nI hj hN) hdg ?_
  rw [nI_clamp (by omega), hv]
  exact kk
theorem wr_alen (hx : p.tables.exec = Jvm.exec) (hb : c.code = cc) (hK : va_K g.1 vwCl (wtys g) s) (hP : va_P g.1 vwCl (wo n ad E) H) (q0 t0 : Nat) (hq : q0 < n) {cA : ClassId} {x : vp_A} (he : E q0 = .inl (cA, x)) {ty : FieldType} (ht : (wtys g)[t0]? = some (cA, ty)) {v : Int32} (hv : nI x.1 = v) (hdg : decode cc pc = .ok (.arraylength, 1))
    (kk : W p l e R s m args below meth c H locs cells slots Q (F0 m (pc + 1) ls (.int v :: rest))) : W p l e R s m args below meth c H locs cells slots Q (F0 m pc ls (.ref (ad q0) :: rest)) :=
  va_alen hx hb hK hP q0 t0 (wo_at hq he) ht hv hdg kk
theorem wr_last (hx : p.tables.exec = Jvm.exec) (hb : c.code = cc) (hK : va_K g.1 vwCl (wtys g) s) (hP : va_P g.1 vwCl (wo n ad E) H) (hJ : wJ n ad) (hS : va_S (wA n ad H0.size) H0 H locs) (q0 t0 : Nat) (hq : q0 < n) {cA : ClassId} {N : Nat} {f : Nat → Int64} (he : E q0 = .inl (cA, N, .inr (.inl f))) (ht : (wtys g)[t0]? = some (cA, .long)) {i : Int32} {x : Int64} (j : Nat) (hi : i = nI j) (hj : j < N) (hN : N < 2 ^ 31) (hU : wU E E' q0 (.inl (cA, N, .inr (.inl (vp_updL f j x))))) (hdg : decode cc pc = .ok (.lastore, 1))
    (kk : ∀ (H1 : Heap) (locs1 : List Loc), va_P g.1 vwCl (wo n ad E') H1 → va_S (wA n ad H0.size) H0 H1 locs1 → W p l e R s m args below meth c H1 locs1 cells slots Q (F0 m (pc + 1) ls rest)) : W p l e R s m args below meth c H locs cells slots Q (F0 m pc ls (.long x :: .int i :: .ref (ad q0) :: rest)) := by
  subst hi
  refine va_last hx hb hK hP (wo_D hJ (fun k hk => wA_at hk)) hS q0 t0 (wo_at hq he) ht (vp_in_nI hj hN) hdg (fun H1 locs1 h1 _ h3 => ?_)
  rw [nI_clamp (by omega), wo_set hq hU] at h1
  exact kk H1 locs1 h1 h3
theorem wr_iast (hx : p.tables.exec = Jvm.exec) (hb : c.code = cc) (hK : va_K g.1 vwCl (wtys g) s) (hP : va_P g.1 vwCl (wo n ad E) H) (hJ : wJ n ad) (hS : va_S (wA n ad H0.size) H0 H locs) (q0 t0 : Nat) (hq : q0 < n) {cA : ClassId} {N : Nat} {f : Nat → Int32} (he : E q0 = .inl (cA, N, .inl f)) (ht : (wtys g)[t0]? = some (cA, .int)) {i : Int32} {x : Int32} (j : Nat) (hi : i = nI j) (hj : j < N) (hN : N < 2 ^ 31) (hU : wU E E' q0 (.inl (cA, N, .inl (upd f j x)))) (hdg : decode cc pc = .ok (.iastore, 1))
    (kk : ∀ (H1 : Heap) (locs1 : List Loc), va_P g.1 vwCl (wo n ad E') H1 → va_S (wA n ad H0.size) H0 H1 locs1 → W p l e R s m args below meth c H1 locs1 cells slots Q (F0 m (pc + 1) ls rest)) : W p l e R s m args below meth c H locs cells slots Q (F0 m pc ls (.int x :: .int i :: .ref (ad q0) :: rest)) := by
  subst hi
  refine va_iast hx hb hK hP (wo_D hJ (fun k hk => wA_at hk)) hS q0 t0 (wo_at hq he) ht (vp_in_nI hj hN) hdg (fun H1 locs1 h1 _ h3 => ?_)
  rw [nI_clamp (by omega), wo_set hq hU] at h1
  exact kk H1 locs1 h1 h3
theorem wp_blind {sz : Nat} : FrameBlind (va_Pc As (wPre g n ad E sz)) := fun a U gg mk q => by
  obtain ⟨q0, q1, qP, qK, qN, qJ⟩ := q
  exact ⟨q0, q1, qP, va_K.moved (u := U) (U := U.calling gg mk a) (Vm.Alike.refl U.vm) qK, wN.same (u := U) (U := U.calling gg mk a) rfl qN, qJ⟩
theorem wp_start (hK : va_K g.1 vwCl (wtys g) s) (hN : wN s) (hP : va_P g.1 vwCl (wo n ad E) H) (hJ : wJ n ad) : ∀ U : State, U.heap = H → s.WarmedH U.vm → va_Pc As (wPre g n ad E H.size) As.toArray U := fun U hU hW => ⟨rfl, by rw [hU], by rw [hU]; exact hP, va_K.moved hW.alike hK, hN.warm hW, hJ⟩
theorem wp_S (hK : va_K g.1 vwCl (wtys g) s) (hN : wN s) (hP : va_P g.1 vwCl (wo n ad E) H) (hJ : wJ n ad) : PreS s H (va_Pc As (wPre g n ad E H.size)) As := ⟨wp_blind, wp_start hK hN hP hJ⟩
theorem wp_V (hK : va_K g.1 vwCl (wtys g) s) (hN : wN s) (hP : va_P g.1 vwCl (wo n ad E) H) (hJ : wJ n ad) (q0 : Nat) (hq : q0 < n) {ci : Nat} {fs : List Value} (he : E q0 = .inr (ci, fs)) {C : String} {T : u_T} {N : Nat} (hc : vwCl[ci]? = some (C, T, N)) : PreV s H C (ad q0) (va_Pc (.ref (ad q0) :: As) (wPre g n ad E H.size)) As :=
  ⟨wp_blind, va_recv hK hP hc (wo_at hq he), wp_start hK hN hP hJ⟩
theorem wA_lt {q : Nat} (h : q < H.size) (hq : wA n ad H.size q) : wA n ad H0.size q := by
  rcases hq with h1 | h1
  · exact Or.inl h1
  · omega
theorem wA_le {q : Nat} (h : H0.size ≤ H.size) (hq : wA n ad H.size q) : wA n ad H0.size q := by
  rcases hq with h1 | h1
  · exact Or.inl h1
  · exact Or.inr (Nat.le_trans h h1)
theorem wc_i {r : Int32} (hr : va_Run p l e R s m args below meth c H locs cells slots 0 0 (F0 m pc ls st0) rest (va_Qi (fun x (_ : Unit) => x = r) (fun _ t => va_P g.1 vwCl (wo n ad E') t.heap) (wA n ad H.size) a) (wA n ad H.size)) (hS : va_S (wA n ad H0.size) H0 H locs)
    (kk : ∀ (H1 : Heap) (locs1 : List Loc), va_P g.1 vwCl (wo n ad E') H1 → va_S (wA n ad H0.size) H0 H1 locs1 → W p l e R s m args below meth c H1 locs1 cells slots Q (F0 m (pc + 3) ls (.int r :: rest))) : W p l e R s m args below meth c H locs cells slots Q (F0 m pc ls st0) :=
  va_calli hr hS (fun q h1 h2 => wA_lt h1 h2) (fun q h => wA_le hS.1 h) (fun r1 _ t H1 locs1 ht _ hw hB _ _ hS1 => by subst hw; rw [ht] at hB; exact kk H1 locs1 hB hS1)
theorem wc_l {r : Int64} (hr : va_Run p l e R s m args below meth c H locs cells slots 0 0 (F0 m pc ls st0) rest (va_Ql (fun x (_ : Unit) => x = r) (fun _ t => va_P g.1 vwCl (wo n ad E') t.heap) (wA n ad H.size) a) (wA n ad H.size)) (hS : va_S (wA n ad H0.size) H0 H locs)
    (kk : ∀ (H1 : Heap) (locs1 : List Loc), va_P g.1 vwCl (wo n ad E') H1 → va_S (wA n ad H0.size) H0 H1 locs1 → W p l e R s m args below meth c H1 locs1 cells slots Q (F0 m (pc + 3) ls (.long r :: rest))) : W p l e R s m args below meth c H locs cells slots Q (F0 m pc ls st0) :=
  va_calll hr hS (fun q h1 h2 => wA_lt h1 h2) (fun q h => wA_le hS.1 h) (fun r1 _ t H1 locs1 ht _ hw hB _ _ hS1 => by subst hw; rw [ht] at hB; exact kk H1 locs1 hB hS1)
theorem wc_v (hr : va_Run p l e R s m args below meth c H locs cells slots 0 0 (F0 m pc ls st0) rest (va_Qv (fun (_ : Unit) => True) (fun _ t => va_P g.1 vwCl (wo n ad E') t.heap) (wA n ad H.size) a) (wA n ad H.size)) (hS : va_S (wA n ad H0.size) H0 H locs)
    (kk : ∀ (H1 : Heap) (locs1 : List Loc), va_P g.1 vwCl (wo n ad E') H1 → va_S (wA n ad H0.size) H0 H1 locs1 → W p l e R s m args below meth c H1 locs1 cells slots Q (F0 m (pc + 3) ls rest)) : W p l e R s m args below meth c H locs cells slots Q (F0 m pc ls st0) :=
  va_callv hr hS (fun q h1 h2 => wA_lt h1 h2) (fun q h => wA_le hS.1 h) (fun _ t H1 locs1 ht _ hw hB _ _ hS1 => by rw [ht] at hB; exact kk H1 locs1 hB hS1)
theorem wc_q {r : Option Nat} (hr : va_Run p l e R s m args below meth c H locs cells slots 0 0 (F0 m pc ls st0) rest (va_Qq (fun x (_ : Unit) => x = r) (fun _ t => va_P g.1 vwCl (wo n ad E') t.heap) (wA n ad H.size) a) (wA n ad H.size)) (hS : va_S (wA n ad H0.size) H0 H locs)
    (kk : ∀ (H1 : Heap) (locs1 : List Loc), va_P g.1 vwCl (wo n ad E') H1 → va_S (wA n ad H0.size) H0 H1 locs1 → W p l e R s m args below meth c H1 locs1 cells slots Q (F0 m (pc + 3) ls (va_rf r :: rest))) : W p l e R s m args below meth c H locs cells slots Q (F0 m pc ls st0) :=
  va_callq hr hS (fun q h1 h2 => wA_lt h1 h2) (fun q h => wA_le hS.1 h) (fun r1 _ t H1 locs1 ht _ hw hB _ _ hS1 => by subst hw; rw [ht] at hB; exact kk H1 locs1 hB hS1)
/-- a loop: n rounds are left at its head -/
theorem wl_loop (I : Nat → Heap → List Loc → Array Slot → Prop) {st : List Value} (h0 : ∀ H locs ls, I 0 H locs ls → W p l e R s m args below meth c H locs cells slots Q (F0 m pc ls st))
    (hs : ∀ n, (∀ H locs ls, I n H locs ls → W p l e R s m args below meth c H locs cells slots Q (F0 m pc ls st)) → ∀ H locs ls, I (n + 1) H locs ls → W p l e R s m args below meth c H locs cells slots Q (F0 m pc ls st)) :
    ∀ n H locs ls, I n H locs ls → W p l e R s m args below meth c H locs cells slots Q (F0 m pc ls st)
  | 0 => h0
  | n + 1 => hs n (wl_loop I h0 hs n)
end WR
end
section
/-! THE CLASS'S STATE -/
/-- ints (0 rain, 1 loss, 2 limit, 3 turns, 4 told, 5 target, 6 p, 7 i, 8 setting); the fan's sum; a layer's stocks; a layer's ints (0 dry, 1 holds); a kind's rows (0 from, 1 millionths); a kind's ints (0 rows, 1 heat, 2 water); longs (0 sums, 1 put in, 2 taken) -/
abbrev xS : Type := (Nat → Int32) × Int64 × (Nat → Nat → Int64) × (Nat → Nat → Int32) × (Nat → Nat → Nat → Int32) × (Nat → Nat → Int32) × (Nat → Nat → Int64)
def xI (x : xS) (k : Nat) : Int32 := x.1 k
def xF (x : xS) : Int64 := x.2.1
def xT (x : xS) (i : Nat) : Nat → Int64 := x.2.2.1 i
def xB (x : xS) (i k : Nat) : Int32 := x.2.2.2.1 i k
def xR (x : xS) (p k : Nat) : Nat → Int32 := x.2.2.2.2.1 p k
def xY (x : xS) (p k : Nat) : Int32 := x.2.2.2.2.2.1 p k
def xO (x : xS) (k : Nat) : Nat → Int64 := x.2.2.2.2.2.2 k
def xI' (x : xS) (k : Nat) (v : Int32) : xS := (upd x.1 k v, x.2)
def xF' (x : xS) (v : Int64) : xS := (x.1, v, x.2.2)
def xT' (x : xS) (i j : Nat) (v : Int64) : xS := (x.1, x.2.1, va_up x.2.2.1 i (vp_updL (x.2.2.1 i) j v), x.2.2.2)
def xB' (x : xS) (i k : Nat) (v : Int32) : xS := (x.1, x.2.1, x.2.2.1, va_up x.2.2.2.1 i (upd (x.2.2.2.1 i) k v), x.2.2.2.2)
def xR' (x : xS) (p k r : Nat) (v : Int32) : xS := (x.1, x.2.1, x.2.2.1, x.2.2.2.1, va_up x.2.2.2.2.1 p (va_up (x.2.2.2.2.1 p) k (upd (x.2.2.2.2.1 p k) r v)), x.2.2.2.2.2)
def xY' (x : xS) (p k : Nat) (v : Int32) : xS := (x.1, x.2.1, x.2.2.1, x.2.2.2.1, x.2.2.2.2.1, va_up x.2.2.2.2.2.1 p (upd (x.2.2.2.2.2.1 p) k v), x.2.2.2.2.2.2)
def xO' (x : xS) (k j : Nat) (v : Int64) : xS := (x.1, x.2.1, x.2.2.1, x.2.2.2.1, x.2.2.2.2.1, x.2.2.2.2.2.1, va_up x.2.2.2.2.2.2 k (vp_updL (x.2.2.2.2.2.2 k) j v))
/-! THE CLASS'S CELLS: 0 this, 1 kinds, 2 fan, 3 sums, 4 put in, 5 taken, 6 layers, 7 + 2i layer i, 8 + 2i its stocks, 7 + 2L + 3p kind p, and its two rows -/
def xE (g : wG) (ad : Nat → Nat) (L : Nat) (x : xS) : Nat → va_E
  | 0 => .inr (ciX, [.ref (ad 6), .ref (ad 1), .ref (ad 2), .ref (ad 3), .ref (ad 4), .ref (ad 5), .int (xI x 0), .int (xI x 1), .int (xI x 2), .int (xI x 3)])
  | 1 => .inl (g.2 tK, 3, .inr (.inr (.inr (.inr (fun p => if p < 3 then some (ad (7 + 2 * L + 3 * p)) else none)))))
  | 2 => .inr (ciFan, [.int (xI x 4), .int (xI x 5), .int (xI x 6), .int (xI x 7), .long (xF x), .int (xI x 8)])
  | 3 => .inl (g.2 tJ, 9, .inr (.inl (xO x 0)))
  | 4 => .inl (g.2 tJ, 5, .inr (.inl (xO x 1)))
  | 5 => .inl (g.2 tJ, 5, .inr (.inl (xO x 2)))
  | 6 => .inl (g.2 tL, L, .inr (.inr (.inr (.inr (fun i => if i < L then some (ad (7 + 2 * i)) else none)))))
  | k + 7 => if k < 2 * L then (if k % 2 = 0 then .inr (ciLay, [.ref (ad (8 + 2 * (k / 2))), .int (xB x (k / 2) 0), .int (xB x (k / 2) 1)]) else .inl (g.2 tJ, 5, .inr (.inl (xT x (k / 2)))))
    else (if (k - 2 * L) % 3 = 0 then .inr (ciKind, [.ref (ad (8 + 2 * L + 3 * ((k - 2 * L) / 3))), .ref (ad (9 + 2 * L + 3 * ((k - 2 * L) / 3))), .int (xY x ((k - 2 * L) / 3) 0), .int (xY x ((k - 2 * L) / 3) 1), .int (xY x ((k - 2 * L) / 3) 2)])
      else if (k - 2 * L) % 3 = 1 then .inl (g.2 tI, 4, .inl (xR x ((k - 2 * L) / 3) 0)) else .inl (g.2 tI, 4, .inl (xR x ((k - 2 * L) / 3) 1)))
abbrev xN (L : Nat) : Nat := 16 + 2 * L
theorem xE_lay (g : wG) (ad : Nat → Nat) (L : Nat) (x : xS) {i : Nat} (h : i < L) : xE g ad L x (7 + 2 * i) = .inr (ciLay, [.ref (ad (8 + 2 * i)), .int (xB x i 0), .int (xB x i 1)]) := by
  rw [show 7 + 2 * i = 2 * i + 7 by omega]
  simp only [xE]
  rw [if_pos (by omega), if_pos (by omega), show 2 * i / 2 = i by omega]
theorem xE_stk (g : wG) (ad : Nat → Nat) (L : Nat) (x : xS) {i : Nat} (h : i < L) : xE g ad L x (8 + 2 * i) = .inl (g.2 tJ, 5, .inr (.inl (xT x i))) := by
  rw [show 8 + 2 * i = (2 * i + 1) + 7 by omega]
  simp only [xE]
  rw [if_pos (by omega), if_neg (by omega), show (2 * i + 1) / 2 = i by omega]
theorem xE_kind (g : wG) (ad : Nat → Nat) (L : Nat) (x : xS) (p : Nat) : xE g ad L x (7 + 2 * L + 3 * p) = .inr (ciKind, [.ref (ad (8 + 2 * L + 3 * p)), .ref (ad (9 + 2 * L + 3 * p)), .int (xY x p 0), .int (xY x p 1), .int (xY x p 2)]) := by
  rw [show 7 + 2 * L + 3 * p = (2 * L + 3 * p) + 7 by omega]
  simp only [xE]
  rw [if_neg (by omega), if_pos (by omega), show (2 * L + 3 * p - 2 * L) / 3 = p by omega]
theorem xE_from (g : wG) (ad : Nat → Nat) (L : Nat) (x : xS) (p : Nat) : xE g ad L x (8 + 2 * L + 3 * p) = .inl (g.2 tI, 4, .inl (xR x p 0)) := by
  rw [show 8 + 2 * L + 3 * p = (2 * L + 3 * p + 1) + 7 by omega]
  simp only [xE]
  rw [if_neg (by omega), if_neg (by omega), if_pos (by omega), show (2 * L + 3 * p + 1 - 2 * L) / 3 = p by omega]
theorem xE_mill (g : wG) (ad : Nat → Nat) (L : Nat) (x : xS) (p : Nat) : xE g ad L x (9 + 2 * L + 3 * p) = .inl (g.2 tI, 4, .inl (xR x p 1)) := by
  rw [show 9 + 2 * L + 3 * p = (2 * L + 3 * p + 2) + 7 by omega]
  simp only [xE]
  rw [if_neg (by omega), if_neg (by omega), if_neg (by omega), show (2 * L + 3 * p + 2 - 2 * L) / 3 = p by omega]
/-- what a write leaves as it was -/
theorem xI_ne (x : xS) {k j : Nat} (v : Int32) (h : j ≠ k) : xI (xI' x k v) j = xI x j := if_neg h
theorem xI_eq (x : xS) (k : Nat) (v : Int32) : xI (xI' x k v) k = v := if_pos rfl
theorem xU_I (g : wG) (ad : Nat → Nat) (L : Nat) (x : xS) (k : Nat) (hk : k < 4) (v : Int32) : wU (xE g ad L x) (xE g ad L (xI' x k v)) 0 (.inr (ciX, ([.ref (ad 6), .ref (ad 1), .ref (ad 2), .ref (ad 3), .ref (ad 4), .ref (ad 5), .int (xI x 0), .int (xI x 1), .int (xI x 2), .int (xI x 3)] : List Value).set (6 + k) (.int v))) := by
  refine ⟨?_, fun j hj => ?_⟩
  · match k, hk with
    | 0, _ => rfl
    | 1, _ => rfl
    | 2, _ => rfl
    | 3, _ => rfl
  · match j, hj with
    | 0, h => exact absurd rfl h
    | 1, _ => rfl
    | 2, _ =>
      match k, hk with
      | 0, _ => rfl
      | 1, _ => rfl
      | 2, _ => rfl
      | 3, _ => rfl
    | 3, _ => rfl
    | 4, _ => rfl
    | 5, _ => rfl
    | 6, _ => rfl
    | j + 7, _ => rfl
theorem xU_Fi (g : wG) (ad : Nat → Nat) (L : Nat) (x : xS) (k : Nat) (hk : k < 5) (v : Int32) : wU (xE g ad L x) (xE g ad L (xI' x (4 + k) v)) 2 (.inr (ciFan, ([.int (xI x 4), .int (xI x 5), .int (xI x 6), .int (xI x 7), .long (xF x), .int (xI x 8)] : List Value).set (if k = 4 then 5 else k) (.int v))) := by
  refine ⟨?_, fun j hj => ?_⟩
  · match k, hk with
    | 0, _ => rfl
    | 1, _ => rfl
    | 2, _ => rfl
    | 3, _ => rfl
    | 4, _ => rfl
  · match j, hj with
    | 0, _ =>
      match k, hk with
      | 0, _ => rfl
      | 1, _ => rfl
      | 2, _ => rfl
      | 3, _ => rfl
      | 4, _ => rfl
    | 1, _ => rfl
    | 2, h => exact absurd rfl h
    | 3, _ => rfl
    | 4, _ => rfl
    | 5, _ => rfl
    | 6, _ => rfl
    | j + 7, _ => rfl
theorem xU_F (g : wG) (ad : Nat → Nat) (L : Nat) (x : xS) (v : Int64) : wU (xE g ad L x) (xE g ad L (xF' x v)) 2 (.inr (ciFan, ([.int (xI x 4), .int (xI x 5), .int (xI x 6), .int (xI x 7), .long (xF x), .int (xI x 8)] : List Value).set 4 (.long v))) := by
  refine ⟨rfl, fun j hj => ?_⟩
  match j, hj with
  | 0, _ => rfl
  | 1, _ => rfl
  | 2, h => exact absurd rfl h
  | 3, _ => rfl
  | 4, _ => rfl
  | 5, _ => rfl
  | 6, _ => rfl
  | j + 7, _ => rfl
theorem xU_O (g : wG) (ad : Nat → Nat) (L : Nat) (x : xS) (k j : Nat) (hk : k < 3) (v : Int64) : wU (xE g ad L x) (xE g ad L (xO' x k j v)) (3 + k) (.inl (g.2 tJ, if k = 0 then 9 else 5, .inr (.inl (vp_updL (xO x k) j v)))) := by
  refine ⟨?_, fun i hi => ?_⟩
  · match k, hk with
    | 0, _ => simp [xE, xO, xO', va_up]
    | 1, _ => simp [xE, xO, xO', va_up]
    | 2, _ => simp [xE, xO, xO', va_up]
  · match i, hi with
    | 0, _ => rfl
    | 1, _ => rfl
    | 2, _ => rfl
    | 3, h => simp only [xE, xO, xO']; rw [va_up_ne _ _ (by omega)]
    | 4, h => simp only [xE, xO, xO']; rw [va_up_ne _ _ (by omega)]
    | 5, h => simp only [xE, xO, xO']; rw [va_up_ne _ _ (by omega)]
    | 6, _ => rfl
    | i + 7, _ => rfl
theorem xU_T (g : wG) (ad : Nat → Nat) (L : Nat) (x : xS) {i : Nat} (hi : i < L) (j : Nat) (v : Int64) : wU (xE g ad L x) (xE g ad L (xT' x i j v)) (8 + 2 * i) (.inl (g.2 tJ, 5, .inr (.inl (vp_updL (xT x i) j v)))) := by
  refine ⟨?_, fun k hk => ?_⟩
  · rw [xE_stk g ad L _ hi]
    simp [xT, xT', va_up]
  · match k, hk with
    | 0, _ => rfl
    | 1, _ => rfl
    | 2, _ => rfl
    | 3, _ => rfl
    | 4, _ => rfl
    | 5, _ => rfl
    | 6, _ => rfl
    | k + 7, h =>
      simp only [xE]
      by_cases h1 : k < 2 * L
      · rw [if_pos h1, if_pos h1]
        by_cases h2 : k % 2 = 0
        · rw [if_pos h2, if_pos h2]; rfl
        · rw [if_neg h2, if_neg h2]
          have h3 : k / 2 ≠ i := by omega
          simp only [xT, xT']
          rw [va_up_ne _ _ h3]
      · rw [if_neg h1, if_neg h1]; rfl
theorem xU_B (g : wG) (ad : Nat → Nat) (L : Nat) (x : xS) {i : Nat} (hi : i < L) (k : Nat) (hk : k < 2) (v : Int32) : wU (xE g ad L x) (xE g ad L (xB' x i k v)) (7 + 2 * i) (.inr (ciLay, ([.ref (ad (8 + 2 * i)), .int (xB x i 0), .int (xB x i 1)] : List Value).set (1 + k) (.int v))) := by
  refine ⟨?_, fun j hj => ?_⟩
  · rw [xE_lay g ad L _ hi]
    match k, hk with
    | 0, _ => simp [xB, xB', va_up, upd]
    | 1, _ => simp [xB, xB', va_up, upd]
  · match j, hj with
    | 0, _ => rfl
    | 1, _ => rfl
    | 2, _ => rfl
    | 3, _ => rfl
    | 4, _ => rfl
    | 5, _ => rfl
    | 6, _ => rfl
    | j + 7, h =>
      simp only [xE]
      by_cases h1 : j < 2 * L
      · rw [if_pos h1, if_pos h1]
        by_cases h2 : j % 2 = 0
        · rw [if_pos h2, if_pos h2]
          have h3 : j / 2 ≠ i := by omega
          simp only [xB, xB']
          rw [va_up_ne _ _ h3]
        · rw [if_neg h2, if_neg h2]; rfl
      · rw [if_neg h1, if_neg h1]; rfl
theorem xU_Y (g : wG) (ad : Nat → Nat) (L : Nat) (x : xS) (p : Nat) (k : Nat) (hk : k < 3) (v : Int32) : wU (xE g ad L x) (xE g ad L (xY' x p k v)) (7 + 2 * L + 3 * p) (.inr (ciKind, ([.ref (ad (8 + 2 * L + 3 * p)), .ref (ad (9 + 2 * L + 3 * p)), .int (xY x p 0), .int (xY x p 1), .int (xY x p 2)] : List Value).set (2 + k) (.int v))) := by
  refine ⟨?_, fun j hj => ?_⟩
  · rw [xE_kind g ad L]
    match k, hk with
    | 0, _ => simp [xY, xY', va_up, upd]
    | 1, _ => simp [xY, xY', va_up, upd]
    | 2, _ => simp [xY, xY', va_up, upd]
  · match j, hj with
    | 0, _ => rfl
    | 1, _ => rfl
    | 2, _ => rfl
    | 3, _ => rfl
    | 4, _ => rfl
    | 5, _ => rfl
    | 6, _ => rfl
    | j + 7, h =>
      simp only [xE]
      by_cases h1 : j < 2 * L
      · rw [if_pos h1, if_pos h1]; rfl
      · rw [if_neg h1, if_neg h1]
        by_cases h2 : (j - 2 * L) % 3 = 0
        · rw [if_pos h2, if_pos h2]
          have h3 : (j - 2 * L) / 3 ≠ p := by omega
          simp only [xY, xY']
          rw [va_up_ne _ _ h3]
        · rw [if_neg h2, if_neg h2]; rfl
theorem xU_R (g : wG) (ad : Nat → Nat) (L : Nat) (x : xS) (p k r : Nat) (hk : k < 2) (v : Int32) : wU (xE g ad L x) (xE g ad L (xR' x p k r v)) (8 + k + 2 * L + 3 * p) (.inl (g.2 tI, 4, .inl (upd (xR x p k) r v))) := by
  have h3 : ∀ j, j ≠ p → ∀ k', xR (xR' x p k r v) j k' = xR x j k' := by
    intro j hj k'
    simp only [xR, xR']
    rw [va_up_ne _ _ hj]
  have h4 : ∀ k', k' ≠ k → xR (xR' x p k r v) p k' = xR x p k' := by
    intro k' hk'
    simp only [xR, xR']
    rw [va_up_self, va_up_ne _ _ hk']
  refine ⟨?_, fun j hj => ?_⟩
  · match k, hk with
    | 0, _ =>
      rw [show 8 + 0 + 2 * L + 3 * p = 8 + 2 * L + 3 * p by omega, xE_from g ad L]
      simp [xR, xR', va_up]
    | 1, _ =>
      rw [show 8 + 1 + 2 * L + 3 * p = 9 + 2 * L + 3 * p by omega, xE_mill g ad L]
      simp [xR, xR', va_up]
  · match j, hj with
    | 0, _ => rfl
    | 1, _ => rfl
    | 2, _ => rfl
    | 3, _ => rfl
    | 4, _ => rfl
    | 5, _ => rfl
    | 6, _ => rfl
    | j + 7, h =>
      simp only [xE]
      by_cases h1 : j < 2 * L
      · rw [if_pos h1, if_pos h1]; rfl
      · rw [if_neg h1, if_neg h1]
        by_cases h2 : (j - 2 * L) % 3 = 0
        · rw [if_pos h2, if_pos h2]; rfl
        · rw [if_neg h2, if_neg h2]
          by_cases h5 : (j - 2 * L) / 3 = p
          · by_cases h6 : (j - 2 * L) % 3 = 1
            · rw [if_pos h6, if_pos h6, h5, h4 0 (by omega)]
            · rw [if_neg h6, if_neg h6, h5, h4 1 (by omega)]
          · rw [h3 _ h5, h3 _ h5]
end
section
/-! WHAT THE CLASS'S METHODS DO, in its own numbers -/
def x_within (a b c : Int32) : Int32 := if a < b then 0 else if c < a then 0 else 1
def x_mo (u m : Int64) : Int64 := u / 1000000 * m + (u - u / 1000000 * 1000000) * m / 1000000
def x_min (x y : Int64) : Int64 := if y < x then y else x
def x_max (x y : Int64) : Int64 := if y < x then x else y
def x_cut (n lo hi : Int64) : Int64 := x_max lo (x_min hi n)
def x_la (L : Nat) (l : Int32) : Option Nat := if x_within l 0 (nI L - 1) = 0 then none else some l.toNatClampNeg
def x_bring (x : xS) (i k : Nat) (u : Int32) (most : Int64) : Int32 × xS :=
  if lg_cmp (xT x i k + Int32.toInt64 u) most ≤ 0 then
    let y := xT' x i k (xT x i k + Int32.toInt64 u)
    (1, xO' y 1 k (xO y 1 k + Int32.toInt64 u))
  else (0, x)
def x_bringAt (x : xS) (o : Option Nat) (k : Nat) (u : Int32) (most : Int64) : Int32 × xS := match o with
  | none => (0, x)
  | some i => x_bring x i k u most
def x_part (L : Nat) (x : xS) (l p u : Int32) : Int32 × xS :=
  if x_within p 0 2 = 0 then (0, x) else if x_within u 0 1000000 = 0 then (0, x) else x_bringAt x (x_la L l) p.toNatClampNeg u 1000000000
def x_water (L : Nat) (x : xS) (l u : Int32) : Int32 × xS :=
  if x_within u 0 1000000 = 0 then (0, x) else x_bringAt x (x_la L l) 3 u 1000000000
def x_heat (L : Nat) (x : xS) (l u : Int32) : Int32 × xS :=
  if x_within u 0 1000000000 = 0 then (0, x) else x_bringAt x (x_la L l) 4 u 1000000000000000
def x_addRow (x : xS) (p : Nat) (w m : Int32) : Int32 × xS :=
  let r := (xY x p 0).toNatClampNeg
  let ok : Int32 × xS :=
    let y := xR' x p 0 r w
    let y := xR' y p 1 r m
    (1, xY' y p 0 (xY y p 0 + 1))
  if 4 ≤ xY x p 0 then (0, x) else if xY x p 0 ≤ 0 then ok else if xR x p 0 (r - 1) < w then ok else (0, x)
def x_rate (x : xS) (p w m : Int32) : Int32 × xS :=
  if x_within p 0 2 = 0 then (0, x) else if x_within w 0 1000000 = 0 then (0, x) else if x_within m 0 100000 = 0 then (0, x) else x_addRow x p.toNatClampNeg w m
def x_yields (x : xS) (p h w : Int32) : Int32 × xS :=
  if x_within p 0 2 = 0 then (0, x) else if x_within h 0 100000 = 0 then (0, x) else if x_within w 0 1000 = 0 then (0, x) else
    (1, xY' (xY' x p.toNatClampNeg 1 h) p.toNatClampNeg 2 w)
def x_bounds (L : Nat) (x : xS) (l d h : Int32) : Int32 × xS := match x_la L l with
  | none => (0, x)
  | some i => if x_within d 0 1000000000 = 0 then (0, x) else if x_within h 0 1000000000 = 0 then (0, x) else (1, xB' (xB' x i 0 d) i 1 h)
def x_rain (x : xS) (u : Int32) : Int32 × xS := if x_within u 0 100000 = 0 then (0, x) else (1, xI' x 0 u)
def x_loss (x : xS) (u : Int32) : Int32 × xS := if x_within u 0 1000000 = 0 then (0, x) else (1, xI' x 1 u)
def x_limit (x : xS) (u : Int32) : Int32 × xS := if x_within u 0 1000000000 = 0 then (0, x) else (1, xI' x 2 u)
def x_tell (x : xS) (t p i : Int32) : xS := xF' (xI' (xI' (xI' (xI' x 4 1) 5 t) 6 p) 7 i) 0
def x_fan (x : xS) (t p i : Int32) : Int32 × xS :=
  if x_within t 0 1000000 = 0 then (0, x) else if x_within p (-1000) 1000 = 0 then (0, x) else if x_within i (-1000) 1000 = 0 then (0, x) else (1, x_tell x t p i)
/-- a layer -/
def x_mass (x : xS) (i : Nat) : Int64 := xT x i 3 + xT x i 0 + xT x i 1 + xT x i 2
def x_warm (x : xS) (i : Nat) : Int64 := if lg_cmp (x_mass x i) 0 ≤ 0 then 0 else xT x i 4 / x_mass x i
def x_surplus (x : xS) (i : Nat) : Int64 := x_max 0 (xT x i 3 - Int32.toInt64 (xB x i 1))
def x_takeSurplus (x : xS) (i : Nat) : xS := xT' x i 3 (xT x i 3 - x_surplus x i)
def x_gwN (x : xS) : Nat → Int64
  | 0 => 0
  | n + 1 => x_max (x_gwN x n) (x_warm x n)
/-- a kind's millionths at a warmth, by its first n rows -/
def x_mAtN (x : xS) (p : Nat) (w : Int64) : Nat → Int32
  | 0 => 0
  | n + 1 => if lg_cmp w (Int32.toInt64 (xR x p 0 n)) < 0 then x_mAtN x p w n else xR x p 1 n
def x_mAt (x : xS) (p : Nat) (w : Int64) : Int32 := x_mAtN x p w (xY x p 0).toNatClampNeg
def x_breakPart (x : xS) (i p : Nat) (w : Int64) : xS :=
  let gr := x_mo (xT x i p) (Int32.toInt64 (x_mAt x p w))
  let he := gr * Int32.toInt64 (xY x p 1)
  let wa := gr * Int32.toInt64 (xY x p 2) / 1000
  let x := xT' x i p (xT x i p - gr)
  let x := xT' x i 4 (xT x i 4 + he)
  let x := xT' x i 3 (xT x i 3 + wa)
  let x := xO' x 0 0 (xO x 0 0 + gr)
  let x := xO' x 0 4 (xO x 0 4 + he)
  xO' x 0 7 (xO x 0 7 + wa)
def x_break (x : xS) (i : Nat) : xS :=
  if 0 ≤ lg_cmp (xT x i 3) (Int32.toInt64 (xB x i 0)) then
    let w := x_warm x i
    x_breakPart (x_breakPart (x_breakPart x i 0 w) i 1 w) i 2 w
  else x
def x_loseHeat (x : xS) (i : Nat) : xS :=
  let he := x_mo (xT x i 4) (Int32.toInt64 (xI x 1))
  let x := xT' x i 4 (xT x i 4 - he)
  xO' x 0 5 (xO x 0 5 + he)
def x_driveOff (x : xS) (i : Nat) : xS :=
  let wa := x_mo (xT x i 3) (Int32.toInt64 (xI x 8))
  let he := x_min (wa * 600) (xT x i 4)
  let x := xT' x i 3 (xT x i 3 - wa)
  let x := xT' x i 4 (xT x i 4 - he)
  let x := xO' x 0 1 (xO x 0 1 + wa)
  xO' x 0 6 (xO x 0 6 + he)
def x_pour (L : Nat) (x : xS) (gr : Int64) (l : Int32) : xS := match x_la L l with
  | none => xO' x 0 2 (xO x 0 2 + gr)
  | some i => xT' x i 3 (xT x i 3 + gr)
def x_layer (L : Nat) (x : xS) (i : Nat) : xS :=
  let x := x_driveOff (x_loseHeat (x_break x i) i) i
  x_pour L (x_takeSurplus x i) (x_surplus x i) (nI (i + 1))
def x_layersN (L : Nat) (x : xS) : Nat → xS
  | 0 => x
  | n + 1 => x_layer L (x_layersN L x n) n
def x_floorDiv (x y : Int64) : Int64 := if 0 ≤ lg_cmp (x ^^^ y) 0 then x / y else if lg_cmp (x / y * y) x = 0 then x / y else x / y - 1
def x_adjust (x : xS) (gw : Int64) : xS :=
  if xI x 4 = 0 then x else
    let e := gw - Int32.toInt64 (xI x 5)
    let x := xF' x (x_cut (xF x + e) (-1000000000) 1000000000)
    xI' x 8 (Int64.toInt32 (x_cut (x_floorDiv (Int32.toInt64 (xI x 6) * e + Int32.toInt64 (xI x 7) * xF x) 1000) 0 1000))
def x_minute (L : Nat) (x : xS) : xS :=
  let x := x_pour L x (Int32.toInt64 (xI x 0)) 0
  let x := xO' x 0 3 (xO x 0 3 + Int32.toInt64 (xI x 0))
  let x := x_layersN L x L
  let x := x_adjust x (x_gwN x L)
  xO' x 0 8 (xO x 0 8 + 1)
/-- at most n minutes more -/
def x_goN (L : Nat) : Nat → xS → Nat × xS
  | 0, x => (0, x)
  | n + 1, x => if 0 < lg_cmp (x_gwN x L) (Int32.toInt64 (xI x 2)) then (0, x) else ((x_goN L n (x_minute L x)).1 + 1, (x_goN L n (x_minute L x)).2)
def x_run (L : Nat) (x : xS) (k : Int32) : Int32 × xS :=
  if x_within k 1 1000 = 0 then (-1, x) else if lg_cmp (xO x 0 8 + Int32.toInt64 k) 20000 ≤ 0 then (nI (x_goN L k.toNatClampNeg x).1, (x_goN L k.toNatClampNeg x).2) else (-1, x)
def x_left (L : Nat) (x : xS) (l p : Int32) : Int64 := match x_la L l with
  | none => -1
  | some i => if x_within p 0 2 = 0 then -1 else xT x i p.toNatClampNeg
def x_wet (L : Nat) (x : xS) (l : Int32) : Int64 := match x_la L l with
  | none => -1
  | some i => xT x i 3
def x_warmth (L : Nat) (x : xS) (l : Int32) : Int64 := match x_la L l with
  | none => -1
  | some i => x_warm x i
def x_inAllN (x : xS) (k : Nat) : Nat → Int64
  | 0 => 0
  | n + 1 => x_inAllN x k n + xT x n k
def x_shareN (x : xS) (k : Nat) (each over : Int64) : Nat → xS
  | 0 => x
  | n + 1 => xT' (x_shareN x k each over n) n k (if 0 ≤ lg_cmp (Int32.toInt64 (nI n)) over then each else each + 1)
def x_share (L : Nat) (x : xS) (k : Nat) : xS :=
  let u := x_inAllN x k L
  let c := Int32.toInt64 (nI L)
  x_shareN x k (u / c) (u - u / c * c) L
def x_turn (L : Nat) (x : xS) : Int32 × xS :=
  let x := x_share L (x_share L (x_share L (x_share L (x_share L x 0) 1) 2) 3) 4
  (xI x 3 + 1, xI' x 3 (xI x 3 + 1))
def x_gone (x : xS) (k : Int32) : Int64 := if x_within k 0 8 = 0 then -1 else xO x 0 k.toNatClampNeg
def x_less (L : Nat) (x : xS) (k : Nat) : Int64 := xO x 1 k - xO x 2 k - x_inAllN x k L
def x_balance (L : Nat) (x : xS) (k : Int32) : Int64 :=
  if k = 0 then x_less L x 0 + x_less L x 1 + x_less L x 2 - xO x 0 0
  else if k = 1 then x_less L x 3 + xO x 0 3 + xO x 0 7 - xO x 0 1 - xO x 0 2
  else if k = 2 then x_less L x 4 + xO x 0 4 - xO x 0 5 - xO x 0 6
  else -1
def x_takeN (x : xS) (i : Nat) : Nat → xS
  | 0 => x
  | n + 1 => xT' (xO' (x_takeN x i n) 2 n (xO (x_takeN x i n) 2 n + xT (x_takeN x i n) i n)) i n 0
def x_batchN (x : xS) : Nat → Int64 × xS
  | 0 => (0, x)
  | n + 1 => ((x_batchN x n).1 + x_mass (x_batchN x n).2 n, x_takeN (x_batchN x n).2 n 5)
/-! small facts -/
theorem nb_01 {v : Int32} (h : v = 0 ∨ v = 1) : narrow .boolean (.int v) = .int v := by
  rcases h with rfl | rfl <;> rfl
theorem x_within_01 (a b c : Int32) : x_within a b c = 0 ∨ x_within a b c = 1 := by
  unfold x_within
  split
  · exact Or.inl rfl
  · split
    · exact Or.inl rfl
    · exact Or.inr rfl
theorem nb_within (a b c : Int32) : narrow .boolean (.int (x_within a b c)) = .int (x_within a b c) := nb_01 (x_within_01 a b c)
theorem x_bring_01 (x : xS) (i k : Nat) (u : Int32) (most : Int64) : (x_bring x i k u most).1 = 0 ∨ (x_bring x i k u most).1 = 1 := by
  unfold x_bring
  split
  · exact Or.inr rfl
  · exact Or.inl rfl
theorem x_addRow_01 (x : xS) (p : Nat) (w m : Int32) : (x_addRow x p w m).1 = 0 ∨ (x_addRow x p w m).1 = 1 := by
  unfold x_addRow
  simp only
  split
  · exact Or.inl rfl
  · split
    · exact Or.inr rfl
    · split
      · exact Or.inr rfl
      · exact Or.inl rfl
/-- a number within 0 and a small bound is a small Nat -/
theorem x_within_nat {a c : Int32} {n : Nat} (hc : c.toInt = n) (h : ¬ x_within a 0 c = 0) : ∃ j : Nat, j ≤ n ∧ a = nI j := by
  unfold x_within at h
  by_cases h1 : a < 0
  · rw [if_pos h1] at h; exact absurd rfl h
  · rw [if_neg h1] at h
    by_cases h2 : c < a
    · rw [if_pos h2] at h; exact absurd rfl h
    · exact nI_of2 hc h1 (Int32.not_lt.mp h2)
theorem x_la_cases {L : Nat} (hL : 1 ≤ L ∧ L ≤ 6) (l : Int32) : x_la L l = none ∨ ∃ i, i < L ∧ l = nI i ∧ x_la L l = some i := by
  unfold x_la
  by_cases h : x_within l 0 (nI L - 1) = 0
  · rw [if_pos h]; exact Or.inl rfl
  · rw [if_neg h]
    obtain ⟨k, rfl⟩ : ∃ k, L = k + 1 := ⟨L - 1, by omega⟩
    rw [nI_pred] at h
    obtain ⟨j, hj, rfl⟩ := x_within_nat (nI_toInt (by omega)) h
    exact Or.inr ⟨j, by omega, rfl, by rw [nI_clamp (by omega)]⟩
theorem x_la_some {L : Nat} (hL : 1 ≤ L ∧ L ≤ 6) {l : Int32} (h : ¬ x_within l 0 (nI L - 1) = 0) : ∃ i, i < L ∧ l = nI i := by
  rcases x_la_cases hL l with h1 | ⟨i, h1, h2, -⟩
  · unfold x_la at h1
    rw [if_neg h] at h1
    cases h1
  · exact ⟨i, h1, h2⟩
def x_rows (x : xS) : Prop := ∀ p, p < 3 → ∃ r, r ≤ 4 ∧ xY x p 0 = nI r
theorem nI_dec {r : Nat} (hr : r ≤ 4) (h : ¬ nI r ≤ 0) : nI r - 1 = nI (r - 1) ∧ 1 ≤ r := by
  match r, hr, h with
  | 0, _, h => exact absurd (by decide) h
  | k + 1, _, _ => exact ⟨nI_pred k, by omega⟩
theorem nIL_ne0 {L : Nat} (hL : 1 ≤ L ∧ L ≤ 6) : ¬ Int32.toInt64 (nI L) = 0 := by
  rw [nI_l (by omega)]
  intro h
  have := (lN_eq (a := L) (b := 0) (by omega) (by omega)).mp h
  omega
theorem tab_out3 {a : Int32} (h0 : ¬ a = 0) (h1 : ¬ a = 1) (h2 : ¬ a = 2) : a.toInt < 0 ∨ 2 < a.toInt := by
  have e0 : a.toInt ≠ 0 := fun h => h0 (Int32.toInt_inj.mp (by rw [h]; rfl))
  have e1 : a.toInt ≠ 1 := fun h => h1 (Int32.toInt_inj.mp (by rw [h]; rfl))
  have e2 : a.toInt ≠ 2 := fun h => h2 (Int32.toInt_inj.mp (by rw [h]; rfl))
  omega
end
section
set_option maxHeartbeats 4000000 in
set_option maxRecDepth 100000 in
theorem c_X_within (l : Launch) (g : wG) (n : Nat) (ad : Nat → Nat) (E : Nat → va_E) (a1 a2 a3 : Int32) : CtI l y_X_within ws_X_within ({ frames := 0, cells := 0, slots := 0, locals := 0 }) g n ad E E [.int a1, .int a2, .int a3] (x_within a1 a2 a3) := by
  intro sz
  refine Met.ofW (cc := b_X_within) (maxL := 3) (ret := (some .boolean)) (by decide +kernel) rfl ?_
  intro p e s m args below meth c s₁ B hml hv
  obtain ⟨rfl, hsz, hP, hK, hN, hJ⟩ := hv
  have hx := B.exec
  have hb := B.bytes
  have hr := B.returns
  have hts0 := atoms_spec (ws := ws_X_within) B.pre
  have hts : ∀ w ∈ tb, w.before _ s = true := fun w h => hts0 w (List.mem_cons_of_mem _ h)
  have hown : s.vm.findClass "HeapSteps" = some m.cls := findClass_of_methodNamed B.named
  have hlocks := B.notSynchronized
  subst hsz
  have hS : va_S (wA n ad s.heap.size) s.heap s.heap [] := va_S.rf
  have hl := lv_entry ([.int a1, .int a2, .int a3]) (n := 3) (Nat.le_of_ble_eq_true rfl)
  rw [lg_entry_eq]
  generalize (lg_sl ([.int a1, .int a2, .int a3]) ++ List.replicate (3 - (lg_sl ([.int a1, .int a2, .int a3])).length) Slot.unset).toArray = ls at hl ⊢
  have hl : lv_has ls 3 [(0, .int a1), (1, .int a2), (2, .int a3)] := hl
  refine lv_iload_n hx hb d_X_within_0 rfl (lv_at hl 0 rfl) ?_
  refine lv_iload_n hx hb d_X_within_1 rfl (lv_at hl 1 rfl) ?_
  refine lv_icmp_lt (tgt := 14) hx hb d_X_within_2 (by decide) (fun c_1 => ?_) (fun c_1 => ?_)
  · skip
    refine lv_iconst (v := 0) hx hb d_X_within_14 (by decide) ?_
    exact W.zret hx hb hr rfl (fun t ht hW => ⟨⟨_, (), rfl, by (try simp only [x_within, if_pos c_1]); first | done | rfl, by dsimp only; rw [ht]; (try simp only [x_within, if_pos c_1]); exact hP⟩, hS.F ht⟩) hS.2.2 d_X_within_15
  · skip
    refine lv_iload_n hx hb d_X_within_5 rfl (lv_at hl 0 rfl) ?_
    refine lv_iload_n hx hb d_X_within_6 rfl (lv_at hl 2 rfl) ?_
    refine lv_icmp_gt (tgt := 14) hx hb d_X_within_7 (by decide) (fun c_2 => ?_) (fun c_2 => ?_)
    · skip
      refine lv_iconst (v := 0) hx hb d_X_within_14 (by decide) ?_
      exact W.zret hx hb hr rfl (fun t ht hW => ⟨⟨_, (), rfl, by (try simp only [x_within, if_neg c_1, if_pos c_2]); first | done | rfl, by dsimp only; rw [ht]; (try simp only [x_within, if_neg c_1, if_pos c_2]); exact hP⟩, hS.F ht⟩) hS.2.2 d_X_within_15
    · skip
      refine lv_iconst (v := 1) hx hb d_X_within_10 (by decide) ?_
      refine lv_goto (tgt := 15) hx hb d_X_within_11 (by decide) ?_
      exact W.zret hx hb hr rfl (fun t ht hW => ⟨⟨_, (), rfl, by (try simp only [x_within, if_neg c_1, if_neg c_2]); first | done | rfl, by dsimp only; rw [ht]; (try simp only [x_within, if_neg c_1, if_neg c_2]); exact hP⟩, hS.F ht⟩) hS.2.2 d_X_within_15
set_option maxHeartbeats 4000000 in
set_option maxRecDepth 100000 in
theorem c_X_isPart (l : Launch) (g : wG) (n : Nat) (ad : Nat → Nat) (E : Nat → va_E) (a1 : Int32) : CtI l y_X_isPart ws_X_isPart ({ frames := 1, cells := 0, slots := 0, locals := 22 }) g n ad E E [.int a1] (x_within a1 0 2) := by
  intro sz
  refine Met.ofW (cc := b_X_isPart) (maxL := 1) (ret := (some .boolean)) (by decide +kernel) rfl ?_
  intro p e s m args below meth c s₁ B hml hv
  obtain ⟨rfl, hsz, hP, hK, hN, hJ⟩ := hv
  have hx := B.exec
  have hb := B.bytes
  have hr := B.returns
  have hts0 := atoms_spec (ws := ws_X_isPart) B.pre
  have hts : ∀ w ∈ tb, w.before _ s = true := fun w h => hts0 w (List.mem_cons_of_mem _ h)
  have hown : s.vm.findClass "HeapSteps" = some m.cls := findClass_of_methodNamed B.named
  have hlocks := B.notSynchronized
  subst hsz
  have hS : va_S (wA n ad s.heap.size) s.heap s.heap [] := va_S.rf
  have hl := lv_entry ([.int a1]) (n := 1) (Nat.le_of_ble_eq_true rfl)
  rw [lg_entry_eq]
  generalize (lg_sl ([.int a1]) ++ List.replicate (1 - (lg_sl ([.int a1])).length) Slot.unset).toArray = ls at hl ⊢
  have hl : lv_has ls 1 [(0, .int a1)] := hl
  refine lv_iload_n hx hb d_X_isPart_0 rfl (lv_at hl 0 rfl) ?_
  refine lv_iconst (v := 0) hx hb d_X_isPart_1 (by decide) ?_
  refine lv_iconst (v := 2) hx hb d_X_isPart_2 (by decide) ?_
  refine wc_i (va_runS (As := [.int a1, .int 0, .int 2]) (rest := []) ⟨hx, hb, hml, hown, hts⟩ (c_X_within l g _ ad _ a1 0 2 _) (cwS 3 hts (gd_S tw_67 tw_68 tw_24 tw_69) rfl rfl rfl (by decide +kernel) ⟨Nat.le_of_ble_eq_true rfl, Nat.le_of_ble_eq_true rfl⟩) (wp_S hK hN hP hJ) rfl rfl hl.1 rfl (lv_room (Nat.le_of_ble_eq_true rfl)) d_X_isPart_3 ⟨Nat.zero_le _, Nat.zero_le _⟩) hS (fun H locs hP hS => ?_)
  exact W.zret hx hb hr (nb_within _ _ _) (fun t ht hW => ⟨⟨_, (), rfl, by skip; first | done | rfl, by dsimp only; rw [ht]; skip; exact hP⟩, hS.F ht⟩) hS.2.2 d_X_isPart_6
set_option maxHeartbeats 4000000 in
set_option maxRecDepth 100000 in
theorem c_X_millionthsOf (l : Launch) (g : wG) (n : Nat) (ad : Nat → Nat) (E : Nat → va_E) (u v : Int64) : CtL l y_X_millionthsOf ws_X_millionthsOf ({ frames := 0, cells := 0, slots := 0, locals := 0 }) g n ad E E [.long u, .long v] (x_mo u v) := by
  intro sz
  refine Met.ofW (cc := b_X_millionthsOf) (maxL := 4) (ret := (some .long)) (by decide +kernel) rfl ?_
  intro p e s m args below meth c s₁ B hml hv
  obtain ⟨rfl, hsz, hP, hK, hN, hJ⟩ := hv
  have hx := B.exec
  have hb := B.bytes
  have hr := B.returns
  have hts0 := atoms_spec (ws := ws_X_millionthsOf) B.pre
  have hts : ∀ w ∈ tb, w.before _ s = true := fun w h => hts0 w (List.mem_cons_of_mem _ h)
  have hown : s.vm.findClass "HeapSteps" = some m.cls := findClass_of_methodNamed B.named
  have hlocks := B.notSynchronized
  subst hsz
  have hS : va_S (wA n ad s.heap.size) s.heap s.heap [] := va_S.rf
  have hl := lv_entry ([.long u, .long v]) (n := 4) (Nat.le_of_ble_eq_true rfl)
  rw [lg_entry_eq]
  generalize (lg_sl ([.long u, .long v]) ++ List.replicate (4 - (lg_sl ([.long u, .long v])).length) Slot.unset).toArray = ls at hl ⊢
  have hl : lv_has ls 4 [(0, .long u), (2, .long v)] := hl
  refine lv_lload_n hx hb d_X_millionthsOf_0 rfl (lv_at hl 0 rfl) ?_
  refine lv_ldc2 (v := 1000000) hx hb hown (hts _ tw_253) d_X_millionthsOf_1 ?_
  refine lv_ldiv hx hb d_X_millionthsOf_4 (by decide) ?_
  refine lv_lload_n hx hb d_X_millionthsOf_5 rfl (lv_at hl 1 rfl) ?_
  refine lv_lmul hx hb d_X_millionthsOf_6 ?_
  refine lv_lload_n hx hb d_X_millionthsOf_7 rfl (lv_at hl 0 rfl) ?_
  refine lv_ldc2 (v := 1000000) hx hb hown (hts _ tw_253) d_X_millionthsOf_8 ?_
  refine lv_lrem hx hb d_X_millionthsOf_11 (by decide) ?_
  refine lv_lload_n hx hb d_X_millionthsOf_12 rfl (lv_at hl 1 rfl) ?_
  refine lv_lmul hx hb d_X_millionthsOf_13 ?_
  refine lv_ldc2 (v := 1000000) hx hb hown (hts _ tw_253) d_X_millionthsOf_14 ?_
  refine lv_ldiv hx hb d_X_millionthsOf_17 (by decide) ?_
  refine lv_ladd hx hb d_X_millionthsOf_18 ?_
  exact W.lret hx hb hr (fun t ht hW => ⟨⟨_, (), rfl, by (try simp only [x_mo]); first | done | rfl, by dsimp only; rw [ht]; (try simp only [x_mo]); exact hP⟩, hS.F ht⟩) hS.2.2 d_X_millionthsOf_19
set_option maxHeartbeats 4000000 in
set_option maxRecDepth 100000 in
theorem c_X_cut (l : Launch) (g : wG) (n : Nat) (ad : Nat → Nat) (E : Nat → va_E) (u v w : Int64) : CtL l y_X_cut ws_X_cut ({ frames := 1, cells := 0, slots := 0, locals := 23 }) g n ad E E [.long u, .long v, .long w] (x_cut u v w) := by
  intro sz
  refine Met.ofW (cc := b_X_cut) (maxL := 6) (ret := (some .long)) (by decide +kernel) rfl ?_
  intro p e s m args below meth c s₁ B hml hv
  obtain ⟨rfl, hsz, hP, hK, hN, hJ⟩ := hv
  have hx := B.exec
  have hb := B.bytes
  have hr := B.returns
  have hts0 := atoms_spec (ws := ws_X_cut) B.pre
  have hts : ∀ w ∈ tb, w.before _ s = true := fun w h => hts0 w (List.mem_cons_of_mem _ h)
  have hown : s.vm.findClass "HeapSteps" = some m.cls := findClass_of_methodNamed B.named
  have hlocks := B.notSynchronized
  subst hsz
  have hS : va_S (wA n ad s.heap.size) s.heap s.heap [] := va_S.rf
  have hl := lv_entry ([.long u, .long v, .long w]) (n := 6) (Nat.le_of_ble_eq_true rfl)
  rw [lg_entry_eq]
  generalize (lg_sl ([.long u, .long v, .long w]) ++ List.replicate (6 - (lg_sl ([.long u, .long v, .long w])).length) Slot.unset).toArray = ls at hl ⊢
  have hl : lv_has ls 6 [(0, .long u), (2, .long v), (4, .long w)] := hl
  refine lv_lload_n hx hb d_X_cut_0 rfl (lv_at hl 1 rfl) ?_
  refine lv_lload hx hb d_X_cut_1 (lv_at hl 2 rfl) ?_
  refine lv_lload_n hx hb d_X_cut_3 rfl (lv_at hl 0 rfl) ?_
  refine va_mmin_long hx hb (hml.trans hl.1.symm) hown (hts _ tw_264) (hts _ tw_265) (hts _ tw_29) (hts _ tw_266) (Nat.le_of_ble_eq_true rfl) (Nat.le_of_ble_eq_true rfl) (Nat.zero_le _) (Nat.zero_le _) d_X_cut_4 ?_
  refine W.eq (g2 := F0 m 7 ls [.long (x_min w u), .long v]) rfl ?_
  refine va_mmax_long hx hb (hml.trans hl.1.symm) hown (hts _ tw_227) (hts _ tw_228) (hts _ tw_29) (hts _ tw_229) (Nat.le_of_ble_eq_true rfl) (Nat.le_of_ble_eq_true rfl) (Nat.zero_le _) (Nat.zero_le _) d_X_cut_7 ?_
  refine W.eq (g2 := F0 m 10 ls [.long (x_max v (x_min w u))]) rfl ?_
  exact W.lret hx hb hr (fun t ht hW => ⟨⟨_, (), rfl, by (try simp only [x_cut]); first | done | rfl, by dsimp only; rw [ht]; (try simp only [x_cut]); exact hP⟩, hS.F ht⟩) hS.2.2 d_X_cut_10
set_option maxHeartbeats 4000000 in
set_option maxRecDepth 100000 in
theorem c_J_floorDiv (l : Launch) (g : wG) (n : Nat) (ad : Nat → Nat) (E : Nat → va_E) (u v : Int64) (hv : ¬ v = 0) : CtL l y_J_floorDiv ws_J_floorDiv ({ frames := 0, cells := 0, slots := 0, locals := 0 }) g n ad E E [.long u, .long v] (x_floorDiv u v) := by
  intro sz
  refine va_MetF (cc := b_J_floorDiv) (maxL := 6) (ret := (some .long)) (by decide +kernel) rfl ?_
  intro p e s m args below meth c s₁ B hml hv
  obtain ⟨rfl, hsz, hP, hK, hN, hJ⟩ := hv
  have hx := B.exec
  have hb := B.bytes
  have hr := B.returns
  have hts0 := atoms_spec (ws := ws_J_floorDiv) B.pre
  have hts : ∀ w ∈ tb, w.before _ s = true := fun w h => hts0 w (List.mem_cons_of_mem _ h)
  have hown : s.vm.findClass "java/lang/Math" = some m.cls := findClass_of_methodNamed B.named
  have hlocks := B.notSynchronized
  subst hsz
  have hS : va_S (wA n ad s.heap.size) s.heap s.heap [] := va_S.rf
  have hl := lv_entry ([.long u, .long v]) (n := 6) (Nat.le_of_ble_eq_true rfl)
  rw [lg_entry_eq]
  generalize (lg_sl ([.long u, .long v]) ++ List.replicate (6 - (lg_sl ([.long u, .long v])).length) Slot.unset).toArray = ls at hl ⊢
  have hl : lv_has ls 6 [(0, .long u), (2, .long v)] := hl
  refine lv_lload_n hx hb d_J_floorDiv_0 rfl (lv_at hl 0 rfl) ?_
  refine lv_lload_n hx hb d_J_floorDiv_1 rfl (lv_at hl 1 rfl) ?_
  refine lv_ldiv hx hb d_J_floorDiv_2 (by assumption) ?_
  refine lv_topl (fun v_1 ev_1 => ?_)
  refine lv_lstore (lv' := [(4, .long v_1), (0, .long u), (2, .long v)]) hx hb d_J_floorDiv_3 hl (by decide) rfl (fun ls hl => ?_)
  refine lv_lload_n hx hb d_J_floorDiv_5 rfl (lv_at hl 1 rfl) ?_
  refine lv_lload_n hx hb d_J_floorDiv_6 rfl (lv_at hl 2 rfl) ?_
  refine lv_lxor hx hb d_J_floorDiv_7 ?_
  refine lv_lconst (v := 0) hx hb d_J_floorDiv_8 (by decide) ?_
  refine W.lcmp hx hb d_J_floorDiv_9 ?_
  refine lv_if_ge (tgt := 27) hx hb d_J_floorDiv_10 (by decide) (fun c_2 => ?_) (fun c_2 => ?_)
  · skip
    refine lv_lload hx hb d_J_floorDiv_27 (lv_at hl 0 rfl) ?_
    subst ev_1
    exact W.lret hx hb hr (fun t ht hW => ⟨⟨_, (), rfl, by (try simp only [x_floorDiv, if_pos c_2]); first | done | rfl, by dsimp only; rw [ht]; (try simp only [x_floorDiv, if_pos c_2]); exact hP⟩, hS.F ht⟩) hS.2.2 d_J_floorDiv_29
  · skip
    refine lv_lload hx hb d_J_floorDiv_13 (lv_at hl 0 rfl) ?_
    refine lv_lload_n hx hb d_J_floorDiv_15 rfl (lv_at hl 2 rfl) ?_
    refine lv_lmul hx hb d_J_floorDiv_16 ?_
    refine lv_lload_n hx hb d_J_floorDiv_17 rfl (lv_at hl 1 rfl) ?_
    refine W.lcmp hx hb d_J_floorDiv_18 ?_
    refine lv_if_eq (tgt := 27) hx hb d_J_floorDiv_19 (by decide) (fun c_3 => ?_) (fun c_3 => ?_)
    · skip
      refine lv_lload hx hb d_J_floorDiv_27 (lv_at hl 0 rfl) ?_
      subst ev_1
      exact W.lret hx hb hr (fun t ht hW => ⟨⟨_, (), rfl, by (try simp only [x_floorDiv, if_neg c_2, if_pos c_3]); first | done | rfl, by dsimp only; rw [ht]; (try simp only [x_floorDiv, if_neg c_2, if_pos c_3]); exact hP⟩, hS.F ht⟩) hS.2.2 d_J_floorDiv_29
    · skip
      refine lv_lload hx hb d_J_floorDiv_22 (lv_at hl 0 rfl) ?_
      refine lv_lconst (v := 1) hx hb d_J_floorDiv_24 (by decide) ?_
      refine lv_lsub hx hb d_J_floorDiv_25 ?_
      subst ev_1
      exact W.lret hx hb hr (fun t ht hW => ⟨⟨_, (), rfl, by (try simp only [x_floorDiv, if_neg c_2, if_neg c_3]); first | done | rfl, by dsimp only; rw [ht]; (try simp only [x_floorDiv, if_neg c_2, if_neg c_3]); exact hP⟩, hS.F ht⟩) hS.2.2 d_J_floorDiv_26
end
section
set_option maxHeartbeats 4000000 in
set_option maxRecDepth 100000 in
theorem c_Y_mass (l : Launch) (g : wG) (ad : Nat → Nat) {L : Nat} (hL : 1 ≤ L ∧ L ≤ 6) (x : xS) {i : Nat} (hi : i < L) : CtL l y_Y_mass ws_Y_mass ({ frames := 0, cells := 0, slots := 0, locals := 0 }) g (16 + 2 * L) ad (xE g ad L x) (xE g ad L x) [.ref (ad (7 + 2 * i))] (x_mass x i) := by
  intro sz
  refine Met.ofW (cc := b_Y_mass) (maxL := 4) (ret := (some .long)) (by decide +kernel) rfl ?_
  intro p e s m args below meth c s₁ B hml hv
  obtain ⟨rfl, hsz, hP, hK, hN, hJ⟩ := hv
  have hx := B.exec
  have hb := B.bytes
  have hr := B.returns
  have hts0 := atoms_spec (ws := ws_Y_mass) B.pre
  have hts : ∀ w ∈ tb, w.before _ s = true := fun w h => hts0 w (List.mem_cons_of_mem _ h)
  have hown : s.vm.findClass "HeapSteps$Layer" = some m.cls := findClass_of_methodNamed B.named
  have hlocks := B.notSynchronized
  subst hsz
  have hS : va_S (wA (16 + 2 * L) ad s.heap.size) s.heap s.heap [] := va_S.rf
  have hl := lv_entry ([.ref (ad (7 + 2 * i))]) (n := 4) (Nat.le_of_ble_eq_true rfl)
  rw [lg_entry_eq]
  generalize (lg_sl ([.ref (ad (7 + 2 * i))]) ++ List.replicate (4 - (lg_sl ([.ref (ad (7 + 2 * i))])).length) Slot.unset).toArray = ls at hl ⊢
  have hl : lv_has ls 4 [(0, .ref (ad (7 + 2 * i)))] := hl
  refine lv_aload_n hx hb d_Y_mass_0 rfl (lv_at hl 0 rfl) ?_
  refine wr_get hx hb hts in_Y hown hK hP (7 + 2 * i) (by omega) (xE_lay g ad L x hi) rfl 0 (by decide) (hts _ tw_78) rfl d_Y_mass_1 ?_
  refine lv_iconst (v := 3) hx hb d_Y_mass_4 (by decide) ?_
  refine wr_lald hx hb hK hP (8 + 2 * i) 0 (by omega) (xE_stk g ad L x hi) rfl 3 (by decide) (by omega) (by omega) d_Y_mass_5 ?_
  refine lv_topl (fun v_1 ev_1 => ?_)
  refine lv_lstore_n (lv' := [(1, .long v_1), (0, .ref (ad (7 + 2 * i)))]) hx hb d_Y_mass_6 rfl hl (by decide) rfl (fun ls hl => ?_)
  refine lv_iconst (v := 0) hx hb d_Y_mass_7 (by decide) ?_
  refine lv_istore_n (lv' := [(3, .int 0), (1, .long v_1), (0, .ref (ad (7 + 2 * i)))]) hx hb d_Y_mass_8 rfl hl (by decide) rfl (fun ls hl => ?_)
  refine lv_iload_n hx hb d_Y_mass_9 rfl (lv_at hl 0 rfl) ?_
  refine lv_iconst (v := 3) hx hb d_Y_mass_10 (by decide) ?_
  refine lv_icmp_ge (tgt := 29) hx hb d_Y_mass_11 (by decide) (fun c_2 => absurd c_2 (by decide)) (fun c_2 => ?_)
  refine lv_lload_n hx hb d_Y_mass_14 rfl (lv_at hl 1 rfl) ?_
  refine lv_aload_n hx hb d_Y_mass_15 rfl (lv_at hl 2 rfl) ?_
  refine wr_get hx hb hts in_Y hown hK hP (7 + 2 * i) (by omega) (xE_lay g ad L x hi) rfl 0 (by decide) (hts _ tw_78) rfl d_Y_mass_16 ?_
  refine lv_iload_n hx hb d_Y_mass_19 rfl (lv_at hl 0 rfl) ?_
  refine wr_lald hx hb hK hP (8 + 2 * i) 0 (by omega) (xE_stk g ad L x hi) rfl 0 (by decide) (by omega) (by omega) d_Y_mass_20 ?_
  refine lv_ladd hx hb d_Y_mass_21 ?_
  refine lv_topl (fun v_3 ev_3 => ?_)
  refine lv_lstore_n (lv' := [(1, .long v_3), (3, .int 0), (0, .ref (ad (7 + 2 * i)))]) hx hb d_Y_mass_22 rfl hl (by decide) rfl (fun ls hl => ?_)
  refine lv_iinc (v := 1) (lv' := [(3, .int 1), (1, .long v_3), (0, .ref (ad (7 + 2 * i)))]) hx hb d_Y_mass_23 hl (k := 1) rfl (by decide) (by decide) rfl (fun ls hl => ?_)
  refine lv_goto (tgt := 9) hx hb d_Y_mass_26 (by decide) ?_
  refine lv_iload_n hx hb d_Y_mass_9 rfl (lv_at hl 0 rfl) ?_
  refine lv_iconst (v := 3) hx hb d_Y_mass_10 (by decide) ?_
  refine lv_icmp_ge (tgt := 29) hx hb d_Y_mass_11 (by decide) (fun c_4 => absurd c_4 (by decide)) (fun c_4 => ?_)
  refine lv_lload_n hx hb d_Y_mass_14 rfl (lv_at hl 1 rfl) ?_
  refine lv_aload_n hx hb d_Y_mass_15 rfl (lv_at hl 2 rfl) ?_
  refine wr_get hx hb hts in_Y hown hK hP (7 + 2 * i) (by omega) (xE_lay g ad L x hi) rfl 0 (by decide) (hts _ tw_78) rfl d_Y_mass_16 ?_
  refine lv_iload_n hx hb d_Y_mass_19 rfl (lv_at hl 0 rfl) ?_
  refine wr_lald hx hb hK hP (8 + 2 * i) 0 (by omega) (xE_stk g ad L x hi) rfl 1 (by decide) (by omega) (by omega) d_Y_mass_20 ?_
  refine lv_ladd hx hb d_Y_mass_21 ?_
  refine lv_topl (fun v_5 ev_5 => ?_)
  refine lv_lstore_n (lv' := [(1, .long v_5), (3, .int 1), (0, .ref (ad (7 + 2 * i)))]) hx hb d_Y_mass_22 rfl hl (by decide) rfl (fun ls hl => ?_)
  refine lv_iinc (v := 2) (lv' := [(3, .int 2), (1, .long v_5), (0, .ref (ad (7 + 2 * i)))]) hx hb d_Y_mass_23 hl (k := 1) rfl (by decide) (by decide) rfl (fun ls hl => ?_)
  refine lv_goto (tgt := 9) hx hb d_Y_mass_26 (by decide) ?_
  refine lv_iload_n hx hb d_Y_mass_9 rfl (lv_at hl 0 rfl) ?_
  refine lv_iconst (v := 3) hx hb d_Y_mass_10 (by decide) ?_
  refine lv_icmp_ge (tgt := 29) hx hb d_Y_mass_11 (by decide) (fun c_6 => absurd c_6 (by decide)) (fun c_6 => ?_)
  refine lv_lload_n hx hb d_Y_mass_14 rfl (lv_at hl 1 rfl) ?_
  refine lv_aload_n hx hb d_Y_mass_15 rfl (lv_at hl 2 rfl) ?_
  refine wr_get hx hb hts in_Y hown hK hP (7 + 2 * i) (by omega) (xE_lay g ad L x hi) rfl 0 (by decide) (hts _ tw_78) rfl d_Y_mass_16 ?_
  refine lv_iload_n hx hb d_Y_mass_19 rfl (lv_at hl 0 rfl) ?_
  refine wr_lald hx hb hK hP (8 + 2 * i) 0 (by omega) (xE_stk g ad L x hi) rfl 2 (by decide) (by omega) (by omega) d_Y_mass_20 ?_
  refine lv_ladd hx hb d_Y_mass_21 ?_
  refine lv_topl (fun v_7 ev_7 => ?_)
  refine lv_lstore_n (lv' := [(1, .long v_7), (3, .int 2), (0, .ref (ad (7 + 2 * i)))]) hx hb d_Y_mass_22 rfl hl (by decide) rfl (fun ls hl => ?_)
  refine lv_iinc (v := 3) (lv' := [(3, .int 3), (1, .long v_7), (0, .ref (ad (7 + 2 * i)))]) hx hb d_Y_mass_23 hl (k := 1) rfl (by decide) (by decide) rfl (fun ls hl => ?_)
  refine lv_goto (tgt := 9) hx hb d_Y_mass_26 (by decide) ?_
  refine lv_iload_n hx hb d_Y_mass_9 rfl (lv_at hl 0 rfl) ?_
  refine lv_iconst (v := 3) hx hb d_Y_mass_10 (by decide) ?_
  refine lv_icmp_ge (tgt := 29) hx hb d_Y_mass_11 (by decide) (fun c_8 => ?_) (fun c_8 => absurd (by decide) c_8)
  refine lv_lload_n hx hb d_Y_mass_29 rfl (lv_at hl 1 rfl) ?_
  subst ev_1
  subst ev_3
  subst ev_5
  subst ev_7
  exact W.lret hx hb hr (fun t ht hW => ⟨⟨_, (), rfl, by (try simp only [x_mass]); first | done | rfl, by dsimp only; rw [ht]; (try simp only [x_mass]); exact hP⟩, hS.F ht⟩) hS.2.2 d_Y_mass_30
set_option maxHeartbeats 4000000 in
set_option maxRecDepth 100000 in
theorem c_Y_warmthNow (l : Launch) (g : wG) (ad : Nat → Nat) {L : Nat} (hL : 1 ≤ L ∧ L ≤ 6) (x : xS) {i : Nat} (hi : i < L) : CtL l y_Y_warmthNow ws_Y_warmthNow ({ frames := 1, cells := 0, slots := 0, locals := 23 }) g (16 + 2 * L) ad (xE g ad L x) (xE g ad L x) [.ref (ad (7 + 2 * i))] (x_warm x i) := by
  intro sz
  refine Met.ofW (cc := b_Y_warmthNow) (maxL := 3) (ret := (some .long)) (by decide +kernel) rfl ?_
  intro p e s m args below meth c s₁ B hml hv
  obtain ⟨rfl, hsz, hP, hK, hN, hJ⟩ := hv
  have hx := B.exec
  have hb := B.bytes
  have hr := B.returns
  have hts0 := atoms_spec (ws := ws_Y_warmthNow) B.pre
  have hts : ∀ w ∈ tb, w.before _ s = true := fun w h => hts0 w (List.mem_cons_of_mem _ h)
  have hown : s.vm.findClass "HeapSteps$Layer" = some m.cls := findClass_of_methodNamed B.named
  have hlocks := B.notSynchronized
  subst hsz
  have hS : va_S (wA (16 + 2 * L) ad s.heap.size) s.heap s.heap [] := va_S.rf
  have hl := lv_entry ([.ref (ad (7 + 2 * i))]) (n := 3) (Nat.le_of_ble_eq_true rfl)
  rw [lg_entry_eq]
  generalize (lg_sl ([.ref (ad (7 + 2 * i))]) ++ List.replicate (3 - (lg_sl ([.ref (ad (7 + 2 * i))])).length) Slot.unset).toArray = ls at hl ⊢
  have hl : lv_has ls 3 [(0, .ref (ad (7 + 2 * i)))] := hl
  refine lv_aload_n hx hb d_Y_warmthNow_0 rfl (lv_at hl 0 rfl) ?_
  refine wc_l (va_runV (As := []) (rest := []) ⟨hx, hb, hml, hown, hts⟩ (c_Y_mass l g ad hL x hi _) (cwV 0 hts (gd_V tw_223 tw_224 tw_225 tw_26 tw_226) rfl rfl rfl (by decide +kernel) ⟨Nat.le_of_ble_eq_true rfl, Nat.le_of_ble_eq_true rfl⟩) (wp_V hK hN hP hJ (7 + 2 * i) (by omega) (xE_lay g ad L x hi) rfl) rfl rfl hl.1 rfl (lv_room (Nat.le_of_ble_eq_true rfl)) d_Y_warmthNow_1 ⟨Nat.zero_le _, Nat.zero_le _⟩) hS (fun H locs hP hS => ?_)
  refine lv_topl (fun v_1 ev_1 => ?_)
  refine lv_lstore_n (lv' := [(1, .long v_1), (0, .ref (ad (7 + 2 * i)))]) hx hb d_Y_warmthNow_4 rfl hl (by decide) rfl (fun ls hl => ?_)
  refine lv_lload_n hx hb d_Y_warmthNow_5 rfl (lv_at hl 0 rfl) ?_
  refine lv_lconst (v := 0) hx hb d_Y_warmthNow_6 (by decide) ?_
  refine W.lcmp hx hb d_Y_warmthNow_7 ?_
  refine lv_if_le (tgt := 22) hx hb d_Y_warmthNow_8 (by decide) (fun c_2 => ?_) (fun c_2 => ?_)
  · skip
    refine lv_lconst (v := 0) hx hb d_Y_warmthNow_22 (by decide) ?_
    subst ev_1
    exact W.lret hx hb hr (fun t ht hW => ⟨⟨_, (), rfl, by (try simp only [x_warm, if_pos c_2]); first | done | rfl, by dsimp only; rw [ht]; (try simp only [x_warm, if_pos c_2]); exact hP⟩, hS.F ht⟩) hS.2.2 d_Y_warmthNow_23
  · skip
    refine lv_aload_n hx hb d_Y_warmthNow_11 rfl (lv_at hl 1 rfl) ?_
    refine wr_get hx hb hts in_Y hown hK hP (7 + 2 * i) (by omega) (xE_lay g ad L x hi) rfl 0 (by decide) (hts _ tw_78) rfl d_Y_warmthNow_12 ?_
    refine lv_iconst (v := 4) hx hb d_Y_warmthNow_15 (by decide) ?_
    refine wr_lald hx hb hK hP (8 + 2 * i) 0 (by omega) (xE_stk g ad L x hi) rfl 4 (by decide) (by omega) (by omega) d_Y_warmthNow_16 ?_
    refine lv_lload_n hx hb d_Y_warmthNow_17 rfl (lv_at hl 0 rfl) ?_
    refine lv_ldiv hx hb d_Y_warmthNow_18 (fun q => c_2 (by rw [q]; decide)) ?_
    refine lv_goto (tgt := 23) hx hb d_Y_warmthNow_19 (by decide) ?_
    subst ev_1
    exact W.lret hx hb hr (fun t ht hW => ⟨⟨_, (), rfl, by (try simp only [x_warm, if_neg c_2]); first | done | rfl, by dsimp only; rw [ht]; (try simp only [x_warm, if_neg c_2]); exact hP⟩, hS.F ht⟩) hS.2.2 d_Y_warmthNow_23
set_option maxHeartbeats 4000000 in
set_option maxRecDepth 100000 in
theorem c_Y_takeSurplus (l : Launch) (g : wG) (ad : Nat → Nat) {L : Nat} (hL : 1 ≤ L ∧ L ≤ 6) (x : xS) {i : Nat} (hi : i < L) : CtL l y_Y_takeSurplus ws_Y_takeSurplus ({ frames := 1, cells := 0, slots := 0, locals := 23 }) g (16 + 2 * L) ad (xE g ad L x) (xE g ad L (x_takeSurplus x i)) [.ref (ad (7 + 2 * i))] (x_surplus x i) := by
  intro sz
  refine Met.ofW (cc := b_Y_takeSurplus) (maxL := 3) (ret := (some .long)) (by decide +kernel) rfl ?_
  intro p e s m args below meth c s₁ B hml hv
  obtain ⟨rfl, hsz, hP, hK, hN, hJ⟩ := hv
  have hx := B.exec
  have hb := B.bytes
  have hr := B.returns
  have hts0 := atoms_spec (ws := ws_Y_takeSurplus) B.pre
  have hts : ∀ w ∈ tb, w.before _ s = true := fun w h => hts0 w (List.mem_cons_of_mem _ h)
  have hown : s.vm.findClass "HeapSteps$Layer" = some m.cls := findClass_of_methodNamed B.named
  have hlocks := B.notSynchronized
  subst hsz
  have hS : va_S (wA (16 + 2 * L) ad s.heap.size) s.heap s.heap [] := va_S.rf
  have hl := lv_entry ([.ref (ad (7 + 2 * i))]) (n := 3) (Nat.le_of_ble_eq_true rfl)
  rw [lg_entry_eq]
  generalize (lg_sl ([.ref (ad (7 + 2 * i))]) ++ List.replicate (3 - (lg_sl ([.ref (ad (7 + 2 * i))])).length) Slot.unset).toArray = ls at hl ⊢
  have hl : lv_has ls 3 [(0, .ref (ad (7 + 2 * i)))] := hl
  refine lv_lconst (v := 0) hx hb d_Y_takeSurplus_0 (by decide) ?_
  refine lv_aload_n hx hb d_Y_takeSurplus_1 rfl (lv_at hl 0 rfl) ?_
  refine wr_get hx hb hts in_Y hown hK hP (7 + 2 * i) (by omega) (xE_lay g ad L x hi) rfl 0 (by decide) (hts _ tw_78) rfl d_Y_takeSurplus_2 ?_
  refine lv_iconst (v := 3) hx hb d_Y_takeSurplus_5 (by decide) ?_
  refine wr_lald hx hb hK hP (8 + 2 * i) 0 (by omega) (xE_stk g ad L x hi) rfl 3 (by decide) (by omega) (by omega) d_Y_takeSurplus_6 ?_
  refine lv_aload_n hx hb d_Y_takeSurplus_7 rfl (lv_at hl 0 rfl) ?_
  refine wr_get hx hb hts in_Y hown hK hP (7 + 2 * i) (by omega) (xE_lay g ad L x hi) rfl 2 (by decide) (hts _ tw_82) rfl d_Y_takeSurplus_8 ?_
  refine lv_i2l hx hb d_Y_takeSurplus_11 rfl ?_
  refine lv_lsub hx hb d_Y_takeSurplus_12 ?_
  refine va_mmax_long hx hb (hml.trans hl.1.symm) hown (hts _ tw_271) (hts _ tw_228) (hts _ tw_29) (hts _ tw_229) (Nat.le_of_ble_eq_true rfl) (Nat.le_of_ble_eq_true rfl) (Nat.zero_le _) (Nat.zero_le _) d_Y_takeSurplus_13 ?_
  refine W.eq (g2 := F0 m 16 ls [.long (x_max 0 ((xT x i 3) - (Int32.toInt64 (xB x i 1))))]) rfl ?_
  refine lv_topl (fun v_1 ev_1 => ?_)
  refine lv_lstore_n (lv' := [(1, .long v_1), (0, .ref (ad (7 + 2 * i)))]) hx hb d_Y_takeSurplus_16 rfl hl (by decide) rfl (fun ls hl => ?_)
  refine lv_aload_n hx hb d_Y_takeSurplus_17 rfl (lv_at hl 1 rfl) ?_
  refine wr_get hx hb hts in_Y hown hK hP (7 + 2 * i) (by omega) (xE_lay g ad L x hi) rfl 0 (by decide) (hts _ tw_78) rfl d_Y_takeSurplus_18 ?_
  refine lv_iconst (v := 3) hx hb d_Y_takeSurplus_21 (by decide) ?_
  refine lv_dup2_11 hx hb d_Y_takeSurplus_22 rfl rfl ?_
  refine wr_lald hx hb hK hP (8 + 2 * i) 0 (by omega) (xE_stk g ad L x hi) rfl 3 (by decide) (by omega) (by omega) d_Y_takeSurplus_23 ?_
  refine lv_lload_n hx hb d_Y_takeSurplus_24 rfl (lv_at hl 0 rfl) ?_
  refine lv_lsub hx hb d_Y_takeSurplus_25 ?_
  obtain ⟨x_2, ex_2⟩ : ∃ z9, z9 = xT' x i 3 ((xT x i 3) - v_1) := ⟨_, rfl⟩
  refine wr_last (E' := xE g ad L x_2) hx hb hK hP hJ hS (8 + 2 * i) 0 (by omega) (xE_stk g ad L x hi) rfl 3 (by decide) (by omega) (by omega) (by rw [ex_2]; exact xU_T g ad L x hi 3 ((xT x i 3) - v_1)) d_Y_takeSurplus_26 (fun H locs hP hS => ?_)
  refine lv_lload_n hx hb d_Y_takeSurplus_27 rfl (lv_at hl 0 rfl) ?_
  subst ev_1
  subst ex_2
  exact W.lret hx hb hr (fun t ht hW => ⟨⟨_, (), rfl, by (try simp only [x_takeSurplus, x_surplus]); first | done | rfl, by dsimp only; rw [ht]; (try simp only [x_takeSurplus, x_surplus]); exact hP⟩, hS.F ht⟩) hS.2.2 d_Y_takeSurplus_28
end
section
set_option maxHeartbeats 4000000 in
set_option maxRecDepth 100000 in
theorem c_K_addRow (l : Launch) (g : wG) (ad : Nat → Nat) {L : Nat} (hL : 1 ≤ L ∧ L ≤ 6) (x : xS) (pk : Nat) (hp : pk < 3) (hro : ∃ r, r ≤ 4 ∧ xY x pk 0 = nI r) (a1 a2 : Int32) : CtI l y_K_addRow ws_K_addRow ({ frames := 0, cells := 0, slots := 0, locals := 0 }) g (16 + 2 * L) ad (xE g ad L x) (xE g ad L (x_addRow x pk a1 a2).2) [.ref (ad (7 + 2 * L + 3 * pk)), .int a1, .int a2] (x_addRow x pk a1 a2).1 := by
  intro sz
  refine Met.ofW (cc := b_K_addRow) (maxL := 3) (ret := (some .boolean)) (by decide +kernel) rfl ?_
  intro p e s m args below meth c s₁ B hml hv
  obtain ⟨rfl, hsz, hP, hK, hN, hJ⟩ := hv
  have hx := B.exec
  have hb := B.bytes
  have hr := B.returns
  have hts0 := atoms_spec (ws := ws_K_addRow) B.pre
  have hts : ∀ w ∈ tb, w.before _ s = true := fun w h => hts0 w (List.mem_cons_of_mem _ h)
  have hown : s.vm.findClass "HeapSteps$Kind" = some m.cls := findClass_of_methodNamed B.named
  have hlocks := B.notSynchronized
  subst hsz
  have hS : va_S (wA (16 + 2 * L) ad s.heap.size) s.heap s.heap [] := va_S.rf
  have hl := lv_entry ([.ref (ad (7 + 2 * L + 3 * pk)), .int a1, .int a2]) (n := 3) (Nat.le_of_ble_eq_true rfl)
  rw [lg_entry_eq]
  generalize (lg_sl ([.ref (ad (7 + 2 * L + 3 * pk)), .int a1, .int a2]) ++ List.replicate (3 - (lg_sl ([.ref (ad (7 + 2 * L + 3 * pk)), .int a1, .int a2])).length) Slot.unset).toArray = ls at hl ⊢
  have hl : lv_has ls 3 [(0, .ref (ad (7 + 2 * L + 3 * pk))), (1, .int a1), (2, .int a2)] := hl
  obtain ⟨r, hr4, hre⟩ := hro
  have hrc : (xY x pk 0).toNatClampNeg = r := by rw [hre]; exact nI_clamp (by omega)
  refine lv_aload_n hx hb d_K_addRow_0 rfl (lv_at hl 0 rfl) ?_
  refine wr_get hx hb hts in_K hown hK hP (7 + 2 * L + 3 * pk) (by omega) (xE_kind g ad L x pk) rfl 2 (by decide) (hts _ tw_99) rfl d_K_addRow_1 ?_
  refine lv_iconst (v := 4) hx hb d_K_addRow_4 (by decide) ?_
  refine lv_icmp_ge (tgt := 30) hx hb d_K_addRow_5 (by decide) (fun c_1 => ?_) (fun c_1 => ?_)
  · skip
    refine lv_iconst (v := 0) hx hb d_K_addRow_30 (by decide) ?_
    exact W.zret hx hb hr rfl (fun t ht hW => ⟨⟨_, (), rfl, by (try simp only [x_addRow, if_pos c_1, hrc]); first | done | rfl, by dsimp only; rw [ht]; (try simp only [x_addRow, if_pos c_1, hrc]); exact hP⟩, hS.F ht⟩) hS.2.2 d_K_addRow_31
  · skip
    refine lv_aload_n hx hb d_K_addRow_8 rfl (lv_at hl 0 rfl) ?_
    refine wr_get hx hb hts in_K hown hK hP (7 + 2 * L + 3 * pk) (by omega) (xE_kind g ad L x pk) rfl 2 (by decide) (hts _ tw_99) rfl d_K_addRow_9 ?_
    refine lv_if_le (tgt := 32) hx hb d_K_addRow_12 (by decide) (fun c_2 => ?_) (fun c_2 => ?_)
    · skip
      have hr5 : r < 4 := by
        rcases Nat.lt_or_ge r 4 with q | q
        · exact q
        · exact absurd (by rw [hre]; exact nI_le q (by omega)) c_1
      refine lv_aload_n hx hb d_K_addRow_32 rfl (lv_at hl 0 rfl) ?_
      refine wr_get hx hb hts in_K hown hK hP (7 + 2 * L + 3 * pk) (by omega) (xE_kind g ad L x pk) rfl 0 (by decide) (hts _ tw_97) rfl d_K_addRow_33 ?_
      refine lv_aload_n hx hb d_K_addRow_36 rfl (lv_at hl 0 rfl) ?_
      refine wr_get hx hb hts in_K hown hK hP (7 + 2 * L + 3 * pk) (by omega) (xE_kind g ad L x pk) rfl 2 (by decide) (hts _ tw_99) rfl d_K_addRow_37 ?_
      rw [hre]
      refine lv_iload_n hx hb d_K_addRow_40 rfl (lv_at hl 1 rfl) ?_
      obtain ⟨x_3, ex_3⟩ : ∃ z9, z9 = xR' x pk 0 r a1 := ⟨_, rfl⟩
      have hre : xY x_3 pk 0 = nI r := by rw [ex_3]; exact hre
      refine wr_iast (E' := xE g ad L x_3) hx hb hK hP hJ hS (8 + 2 * L + 3 * pk) 1 (by omega) (xE_from g ad L x pk) rfl r rfl (by omega) (by omega) (by rw [ex_3]; exact xU_R g ad L x pk 0 r (by decide) a1) d_K_addRow_41 (fun H locs hP hS => ?_)
      refine lv_aload_n hx hb d_K_addRow_42 rfl (lv_at hl 0 rfl) ?_
      refine wr_get hx hb hts in_K hown hK hP (7 + 2 * L + 3 * pk) (by omega) (xE_kind g ad L x_3 pk) rfl 1 (by decide) (hts _ tw_98) rfl d_K_addRow_43 ?_
      refine lv_aload_n hx hb d_K_addRow_46 rfl (lv_at hl 0 rfl) ?_
      refine wr_get hx hb hts in_K hown hK hP (7 + 2 * L + 3 * pk) (by omega) (xE_kind g ad L x_3 pk) rfl 2 (by decide) (hts _ tw_99) rfl d_K_addRow_47 ?_
      rw [hre]
      refine lv_iload_n hx hb d_K_addRow_50 rfl (lv_at hl 2 rfl) ?_
      obtain ⟨x_4, ex_4⟩ : ∃ z9, z9 = xR' x_3 pk 1 r a2 := ⟨_, rfl⟩
      have hre : xY x_4 pk 0 = nI r := by rw [ex_4]; exact hre
      refine wr_iast (E' := xE g ad L x_4) hx hb hK hP hJ hS (9 + 2 * L + 3 * pk) 1 (by omega) (xE_mill g ad L x_3 pk) rfl r rfl (by omega) (by omega) (by rw [ex_4]; exact xU_R g ad L x_3 pk 1 r (by decide) a2) d_K_addRow_51 (fun H locs hP hS => ?_)
      refine lv_aload_n hx hb d_K_addRow_52 rfl (lv_at hl 0 rfl) ?_
      refine lv_dup hx hb d_K_addRow_53 rfl ?_
      refine wr_get hx hb hts in_K hown hK hP (7 + 2 * L + 3 * pk) (by omega) (xE_kind g ad L x_4 pk) rfl 2 (by decide) (hts _ tw_99) rfl d_K_addRow_54 ?_
      refine lv_iconst (v := 1) hx hb d_K_addRow_57 (by decide) ?_
      refine lv_iadd hx hb d_K_addRow_58 ?_
      obtain ⟨x_5, ex_5⟩ : ∃ z9, z9 = xY' x_4 pk 0 ((xY x_4 pk 0) + 1) := ⟨_, rfl⟩
      refine wr_put (E' := xE g ad L x_5) hx hb hts in_K ty_K ty_K_ok n_K hown hK hP hJ hS (7 + 2 * L + 3 * pk) (by omega) (xE_kind g ad L x_4 pk) rfl 2 (by decide) (hts _ tw_99) rfl rfl rfl (Nat.le_of_ble_eq_true rfl) (by rw [ex_5]; exact xU_Y g ad L x_4 pk 0 (by decide) ((xY x_4 pk 0) + 1)) d_K_addRow_59 (fun H locs hP hS => ?_)
      refine lv_iconst (v := 1) hx hb d_K_addRow_62 (by decide) ?_
      subst ex_3
      subst ex_4
      subst ex_5
      exact W.zret hx hb hr rfl (fun t ht hW => ⟨⟨_, (), rfl, by (try simp only [x_addRow, if_neg c_1, if_pos c_2, hrc]); first | done | rfl, by dsimp only; rw [ht]; (try simp only [x_addRow, if_neg c_1, if_pos c_2, hrc]); exact hP⟩, hS.F ht⟩) hS.2.2 d_K_addRow_63
    · skip
      refine lv_iload_n hx hb d_K_addRow_15 rfl (lv_at hl 1 rfl) ?_
      refine lv_aload_n hx hb d_K_addRow_16 rfl (lv_at hl 0 rfl) ?_
      refine wr_get hx hb hts in_K hown hK hP (7 + 2 * L + 3 * pk) (by omega) (xE_kind g ad L x pk) rfl 0 (by decide) (hts _ tw_97) rfl d_K_addRow_17 ?_
      refine lv_aload_n hx hb d_K_addRow_20 rfl (lv_at hl 0 rfl) ?_
      refine wr_get hx hb hts in_K hown hK hP (7 + 2 * L + 3 * pk) (by omega) (xE_kind g ad L x pk) rfl 2 (by decide) (hts _ tw_99) rfl d_K_addRow_21 ?_
      rw [hre]
      refine lv_iconst (v := 1) hx hb d_K_addRow_24 (by decide) ?_
      refine lv_isub hx hb d_K_addRow_25 ?_
      have hdec := nI_dec hr4 (by rw [← hre]; exact c_2)
      rw [hdec.1]
      have hd1 := hdec.2
      refine wr_iald hx hb hK hP (8 + 2 * L + 3 * pk) 1 (by omega) (xE_from g ad L x pk) rfl (r - 1) rfl (by omega) (by omega) d_K_addRow_26 ?_
      refine lv_icmp_gt (tgt := 32) hx hb d_K_addRow_27 (by decide) (fun c_6 => ?_) (fun c_6 => ?_)
      · skip
        have hr5 : r < 4 := by
          rcases Nat.lt_or_ge r 4 with q | q
          · exact q
          · exact absurd (by rw [hre]; exact nI_le q (by omega)) c_1
        refine lv_aload_n hx hb d_K_addRow_32 rfl (lv_at hl 0 rfl) ?_
        refine wr_get hx hb hts in_K hown hK hP (7 + 2 * L + 3 * pk) (by omega) (xE_kind g ad L x pk) rfl 0 (by decide) (hts _ tw_97) rfl d_K_addRow_33 ?_
        refine lv_aload_n hx hb d_K_addRow_36 rfl (lv_at hl 0 rfl) ?_
        refine wr_get hx hb hts in_K hown hK hP (7 + 2 * L + 3 * pk) (by omega) (xE_kind g ad L x pk) rfl 2 (by decide) (hts _ tw_99) rfl d_K_addRow_37 ?_
        rw [hre]
        refine lv_iload_n hx hb d_K_addRow_40 rfl (lv_at hl 1 rfl) ?_
        obtain ⟨x_7, ex_7⟩ : ∃ z9, z9 = xR' x pk 0 r a1 := ⟨_, rfl⟩
        have hre : xY x_7 pk 0 = nI r := by rw [ex_7]; exact hre
        refine wr_iast (E' := xE g ad L x_7) hx hb hK hP hJ hS (8 + 2 * L + 3 * pk) 1 (by omega) (xE_from g ad L x pk) rfl r rfl (by omega) (by omega) (by rw [ex_7]; exact xU_R g ad L x pk 0 r (by decide) a1) d_K_addRow_41 (fun H locs hP hS => ?_)
        refine lv_aload_n hx hb d_K_addRow_42 rfl (lv_at hl 0 rfl) ?_
        refine wr_get hx hb hts in_K hown hK hP (7 + 2 * L + 3 * pk) (by omega) (xE_kind g ad L x_7 pk) rfl 1 (by decide) (hts _ tw_98) rfl d_K_addRow_43 ?_
        refine lv_aload_n hx hb d_K_addRow_46 rfl (lv_at hl 0 rfl) ?_
        refine wr_get hx hb hts in_K hown hK hP (7 + 2 * L + 3 * pk) (by omega) (xE_kind g ad L x_7 pk) rfl 2 (by decide) (hts _ tw_99) rfl d_K_addRow_47 ?_
        rw [hre]
        refine lv_iload_n hx hb d_K_addRow_50 rfl (lv_at hl 2 rfl) ?_
        obtain ⟨x_8, ex_8⟩ : ∃ z9, z9 = xR' x_7 pk 1 r a2 := ⟨_, rfl⟩
        have hre : xY x_8 pk 0 = nI r := by rw [ex_8]; exact hre
        refine wr_iast (E' := xE g ad L x_8) hx hb hK hP hJ hS (9 + 2 * L + 3 * pk) 1 (by omega) (xE_mill g ad L x_7 pk) rfl r rfl (by omega) (by omega) (by rw [ex_8]; exact xU_R g ad L x_7 pk 1 r (by decide) a2) d_K_addRow_51 (fun H locs hP hS => ?_)
        refine lv_aload_n hx hb d_K_addRow_52 rfl (lv_at hl 0 rfl) ?_
        refine lv_dup hx hb d_K_addRow_53 rfl ?_
        refine wr_get hx hb hts in_K hown hK hP (7 + 2 * L + 3 * pk) (by omega) (xE_kind g ad L x_8 pk) rfl 2 (by decide) (hts _ tw_99) rfl d_K_addRow_54 ?_
        refine lv_iconst (v := 1) hx hb d_K_addRow_57 (by decide) ?_
        refine lv_iadd hx hb d_K_addRow_58 ?_
        obtain ⟨x_9, ex_9⟩ : ∃ z9, z9 = xY' x_8 pk 0 ((xY x_8 pk 0) + 1) := ⟨_, rfl⟩
        refine wr_put (E' := xE g ad L x_9) hx hb hts in_K ty_K ty_K_ok n_K hown hK hP hJ hS (7 + 2 * L + 3 * pk) (by omega) (xE_kind g ad L x_8 pk) rfl 2 (by decide) (hts _ tw_99) rfl rfl rfl (Nat.le_of_ble_eq_true rfl) (by rw [ex_9]; exact xU_Y g ad L x_8 pk 0 (by decide) ((xY x_8 pk 0) + 1)) d_K_addRow_59 (fun H locs hP hS => ?_)
        refine lv_iconst (v := 1) hx hb d_K_addRow_62 (by decide) ?_
        subst ex_7
        subst ex_8
        subst ex_9
        exact W.zret hx hb hr rfl (fun t ht hW => ⟨⟨_, (), rfl, by (try simp only [x_addRow, if_neg c_1, if_neg c_2, if_pos c_6, hrc]); first | done | rfl, by dsimp only; rw [ht]; (try simp only [x_addRow, if_neg c_1, if_neg c_2, if_pos c_6, hrc]); exact hP⟩, hS.F ht⟩) hS.2.2 d_K_addRow_63
      · skip
        refine lv_iconst (v := 0) hx hb d_K_addRow_30 (by decide) ?_
        exact W.zret hx hb hr rfl (fun t ht hW => ⟨⟨_, (), rfl, by (try simp only [x_addRow, if_neg c_1, if_neg c_2, if_neg c_6, hrc]); first | done | rfl, by dsimp only; rw [ht]; (try simp only [x_addRow, if_neg c_1, if_neg c_2, if_neg c_6, hrc]); exact hP⟩, hS.F ht⟩) hS.2.2 d_K_addRow_31
set_option maxHeartbeats 4000000 in
set_option maxRecDepth 100000 in
theorem c_K_millionthsAt (l : Launch) (g : wG) (ad : Nat → Nat) {L : Nat} (hL : 1 ≤ L ∧ L ≤ 6) (x : xS) (pk : Nat) (hp : pk < 3) (hro : ∃ r, r ≤ 4 ∧ xY x pk 0 = nI r) (a1 : Int64) : CtI l y_K_millionthsAt ws_K_millionthsAt ({ frames := 0, cells := 0, slots := 0, locals := 0 }) g (16 + 2 * L) ad (xE g ad L x) (xE g ad L x) [.ref (ad (7 + 2 * L + 3 * pk)), .long a1] (x_mAt x pk a1) := by
  intro sz
  refine Met.ofW (cc := b_K_millionthsAt) (maxL := 5) (ret := (some .int)) (by decide +kernel) rfl ?_
  intro p e s m args below meth c s₁ B hml hv
  obtain ⟨rfl, hsz, hP, hK, hN, hJ⟩ := hv
  have hx := B.exec
  have hb := B.bytes
  have hr := B.returns
  have hts0 := atoms_spec (ws := ws_K_millionthsAt) B.pre
  have hts : ∀ w ∈ tb, w.before _ s = true := fun w h => hts0 w (List.mem_cons_of_mem _ h)
  have hown : s.vm.findClass "HeapSteps$Kind" = some m.cls := findClass_of_methodNamed B.named
  have hlocks := B.notSynchronized
  subst hsz
  have hS : va_S (wA (16 + 2 * L) ad s.heap.size) s.heap s.heap [] := va_S.rf
  have hl := lv_entry ([.ref (ad (7 + 2 * L + 3 * pk)), .long a1]) (n := 5) (Nat.le_of_ble_eq_true rfl)
  rw [lg_entry_eq]
  generalize (lg_sl ([.ref (ad (7 + 2 * L + 3 * pk)), .long a1]) ++ List.replicate (5 - (lg_sl ([.ref (ad (7 + 2 * L + 3 * pk)), .long a1])).length) Slot.unset).toArray = ls at hl ⊢
  have hl : lv_has ls 5 [(0, .ref (ad (7 + 2 * L + 3 * pk))), (1, .long a1)] := hl
  obtain ⟨r, hr4, hre⟩ := hro
  have hrc : (xY x pk 0).toNatClampNeg = r := by rw [hre]; exact nI_clamp (by omega)
  refine lv_iconst (v := 0) hx hb d_K_millionthsAt_0 (by decide) ?_
  refine lv_istore_n (lv' := [(3, .int 0), (0, .ref (ad (7 + 2 * L + 3 * pk))), (1, .long a1)]) hx hb d_K_millionthsAt_1 rfl hl (by decide) rfl (fun ls hl => ?_)
  refine lv_iconst (v := 0) hx hb d_K_millionthsAt_2 (by decide) ?_
  refine lv_istore (lv' := [(4, .int 0), (3, .int 0), (0, .ref (ad (7 + 2 * L + 3 * pk))), (1, .long a1)]) hx hb d_K_millionthsAt_3 hl (by decide) rfl (fun ls hl => ?_)
  refine wl_loop (pc := 5) (fun fu H locs ls => ∃ i : Nat, i + fu = r ∧ va_P g.1 vwCl (wo (16 + 2 * L) ad (xE g ad L x)) H ∧ va_S (wA (16 + 2 * L) ad s.heap.size) s.heap H locs ∧ lv_has ls 5 [(4, .int (nI i)), (3, .int (x_mAtN x pk a1 i)), (1, .long a1), (0, .ref (ad (7 + 2 * L + 3 * pk)))]) ?_ ?_ r _ _ _ ⟨0, by omega, hP, hS, lv_sub hl [0, 1, 3, 2] rfl⟩
  · intro H locs ls hI
    obtain ⟨i, hi, hP, hS, hl⟩ := hI
    have hT_i : i = r := by omega
    try rw [hT_i] at hP
    try rw [hT_i] at hl
    refine lv_iload hx hb d_K_millionthsAt_5 (lv_at hl 0 rfl) ?_
    refine lv_aload_n hx hb d_K_millionthsAt_7 rfl (lv_at hl 3 rfl) ?_
    refine wr_get hx hb hts in_K hown hK hP (7 + 2 * L + 3 * pk) (by omega) (xE_kind g ad L x pk) rfl 2 (by decide) (hts _ tw_99) rfl d_K_millionthsAt_8 ?_
    rw [hre]
    refine lv_icmp_ge (tgt := 47) hx hb d_K_millionthsAt_11 (by decide) (fun c_1 => ?_) (fun c_1 => absurd (nI_le (by omega) (by omega)) c_1)
    refine lv_iload_n hx hb d_K_millionthsAt_47 rfl (lv_at hl 1 rfl) ?_
    exact W.iret hx hb hr (fun t ht hW => ⟨⟨_, (), rfl, by (try simp only [x_mAt, hrc]); first | done | rfl, by dsimp only; rw [ht]; (try simp only [x_mAt, hrc]); exact hP⟩, hS.F ht⟩) hS.2.2 d_K_millionthsAt_48
  · intro fu ih_i H locs ls hI
    obtain ⟨i, hi, hP, hS, hl⟩ := hI
    have hi_i : i < r := by omega
    refine lv_iload hx hb d_K_millionthsAt_5 (lv_at hl 0 rfl) ?_
    refine lv_aload_n hx hb d_K_millionthsAt_7 rfl (lv_at hl 3 rfl) ?_
    refine wr_get hx hb hts in_K hown hK hP (7 + 2 * L + 3 * pk) (by omega) (xE_kind g ad L x pk) rfl 2 (by decide) (hts _ tw_99) rfl d_K_millionthsAt_8 ?_
    rw [hre]
    refine lv_icmp_ge (tgt := 47) hx hb d_K_millionthsAt_11 (by decide) (fun c_2 => absurd c_2 (nI_ge hi_i (by omega))) (fun c_2 => ?_)
    refine lv_iload hx hb d_K_millionthsAt_14 (lv_at hl 0 rfl) ?_
    refine lv_iconst (v := 4) hx hb d_K_millionthsAt_16 (by decide) ?_
    refine lv_icmp_ge (tgt := 47) hx hb d_K_millionthsAt_17 (by decide) (fun c_3 => absurd c_3 (show ¬ nI 4 ≤ nI i from nI_ge (by omega) (by omega))) (fun c_3 => ?_)
    refine lv_lload_n hx hb d_K_millionthsAt_20 rfl (lv_at hl 2 rfl) ?_
    refine lv_aload_n hx hb d_K_millionthsAt_21 rfl (lv_at hl 3 rfl) ?_
    refine wr_get hx hb hts in_K hown hK hP (7 + 2 * L + 3 * pk) (by omega) (xE_kind g ad L x pk) rfl 0 (by decide) (hts _ tw_97) rfl d_K_millionthsAt_22 ?_
    refine lv_iload hx hb d_K_millionthsAt_25 (lv_at hl 0 rfl) ?_
    refine wr_iald hx hb hK hP (8 + 2 * L + 3 * pk) 1 (by omega) (xE_from g ad L x pk) rfl i rfl (by omega) (by omega) d_K_millionthsAt_27 ?_
    refine lv_i2l hx hb d_K_millionthsAt_28 rfl ?_
    refine W.lcmp hx hb d_K_millionthsAt_29 ?_
    refine lv_if_lt (tgt := 41) hx hb d_K_millionthsAt_30 (by decide) (fun c_4 => ?_) (fun c_4 => ?_)
    · skip
      refine lv_iinc (v := nI (i + 1)) (lv' := [(4, .int (nI (i + 1))), (3, .int (x_mAtN x pk a1 i)), (1, .long a1), (0, .ref (ad (7 + 2 * L + 3 * pk)))]) hx hb d_K_millionthsAt_41 hl (k := 0) rfl (nI_1 i) (by decide) rfl (fun ls hl => ?_)
      refine lv_goto (tgt := 5) hx hb d_K_millionthsAt_44 (by decide) ?_
      exact ih_i _ _ _ ⟨i + 1, by omega, (by (try simp only [x_mAtN, if_pos c_4]); exact hP), hS, lv_sub hl [0, 1, 2, 3] (by (try simp only [x_mAtN, if_pos c_4]); rfl)⟩
    · skip
      refine lv_aload_n hx hb d_K_millionthsAt_33 rfl (lv_at hl 3 rfl) ?_
      refine wr_get hx hb hts in_K hown hK hP (7 + 2 * L + 3 * pk) (by omega) (xE_kind g ad L x pk) rfl 1 (by decide) (hts _ tw_98) rfl d_K_millionthsAt_34 ?_
      refine lv_iload hx hb d_K_millionthsAt_37 (lv_at hl 0 rfl) ?_
      refine wr_iald hx hb hK hP (9 + 2 * L + 3 * pk) 1 (by omega) (xE_mill g ad L x pk) rfl i rfl (by omega) (by omega) d_K_millionthsAt_39 ?_
      refine lv_topi (fun v_5 ev_5 => ?_)
      refine lv_istore_n (lv' := [(3, .int v_5), (4, .int (nI i)), (1, .long a1), (0, .ref (ad (7 + 2 * L + 3 * pk)))]) hx hb d_K_millionthsAt_40 rfl hl (by decide) rfl (fun ls hl => ?_)
      refine lv_iinc (v := nI (i + 1)) (lv' := [(4, .int (nI (i + 1))), (3, .int v_5), (1, .long a1), (0, .ref (ad (7 + 2 * L + 3 * pk)))]) hx hb d_K_millionthsAt_41 hl (k := 1) rfl (nI_1 i) (by decide) rfl (fun ls hl => ?_)
      refine lv_goto (tgt := 5) hx hb d_K_millionthsAt_44 (by decide) ?_
      subst ev_5
      exact ih_i _ _ _ ⟨i + 1, by omega, (by (try simp only [x_mAtN, if_neg c_4]); exact hP), hS, lv_sub hl [0, 1, 2, 3] (by (try simp only [x_mAtN, if_neg c_4]); rfl)⟩
end
section
set_option maxHeartbeats 4000000 in
set_option maxRecDepth 100000 in
theorem c_F_tell (l : Launch) (g : wG) (ad : Nat → Nat) {L : Nat} (hL : 1 ≤ L ∧ L ≤ 6) (x : xS) (a1 a2 a3 : Int32) : CtV l y_F_tell ws_F_tell ({ frames := 0, cells := 0, slots := 0, locals := 0 }) g (16 + 2 * L) ad (xE g ad L x) (xE g ad L (x_tell x a1 a2 a3)) [.ref (ad 2), .int a1, .int a2, .int a3] := by
  intro sz
  refine Met.ofW (cc := b_F_tell) (maxL := 4) (ret := none) (by decide +kernel) rfl ?_
  intro p e s m args below meth c s₁ B hml hv
  obtain ⟨rfl, hsz, hP, hK, hN, hJ⟩ := hv
  have hx := B.exec
  have hb := B.bytes
  have hr := B.returns
  have hts0 := atoms_spec (ws := ws_F_tell) B.pre
  have hts : ∀ w ∈ tb, w.before _ s = true := fun w h => hts0 w (List.mem_cons_of_mem _ h)
  have hown : s.vm.findClass "HeapSteps$Fan" = some m.cls := findClass_of_methodNamed B.named
  have hlocks := B.notSynchronized
  subst hsz
  have hS : va_S (wA (16 + 2 * L) ad s.heap.size) s.heap s.heap [] := va_S.rf
  have hl := lv_entry ([.ref (ad 2), .int a1, .int a2, .int a3]) (n := 4) (Nat.le_of_ble_eq_true rfl)
  rw [lg_entry_eq]
  generalize (lg_sl ([.ref (ad 2), .int a1, .int a2, .int a3]) ++ List.replicate (4 - (lg_sl ([.ref (ad 2), .int a1, .int a2, .int a3])).length) Slot.unset).toArray = ls at hl ⊢
  have hl : lv_has ls 4 [(0, .ref (ad 2)), (1, .int a1), (2, .int a2), (3, .int a3)] := hl
  refine lv_aload_n hx hb d_F_tell_0 rfl (lv_at hl 0 rfl) ?_
  refine lv_iconst (v := 1) hx hb d_F_tell_1 (by decide) ?_
  obtain ⟨x_1, ex_1⟩ : ∃ z9, z9 = xI' x 4 1 := ⟨_, rfl⟩
  refine wr_put (E' := xE g ad L x_1) hx hb hts in_F ty_F ty_F_ok n_F hown hK hP hJ hS (2) (by omega) rfl rfl 0 (by decide) (hts _ tw_46) rfl rfl rfl (Nat.le_of_ble_eq_true rfl) (by rw [ex_1]; exact xU_Fi g ad L x 0 (by decide) 1) d_F_tell_2 (fun H locs hP hS => ?_)
  refine lv_aload_n hx hb d_F_tell_5 rfl (lv_at hl 0 rfl) ?_
  refine lv_iload_n hx hb d_F_tell_6 rfl (lv_at hl 1 rfl) ?_
  obtain ⟨x_2, ex_2⟩ : ∃ z9, z9 = xI' x_1 5 a1 := ⟨_, rfl⟩
  refine wr_put (E' := xE g ad L x_2) hx hb hts in_F ty_F ty_F_ok n_F hown hK hP hJ hS (2) (by omega) rfl rfl 1 (by decide) (hts _ tw_47) rfl rfl rfl (Nat.le_of_ble_eq_true rfl) (by rw [ex_2]; exact xU_Fi g ad L x_1 1 (by decide) a1) d_F_tell_7 (fun H locs hP hS => ?_)
  refine lv_aload_n hx hb d_F_tell_10 rfl (lv_at hl 0 rfl) ?_
  refine lv_iload_n hx hb d_F_tell_11 rfl (lv_at hl 2 rfl) ?_
  obtain ⟨x_3, ex_3⟩ : ∃ z9, z9 = xI' x_2 6 a2 := ⟨_, rfl⟩
  refine wr_put (E' := xE g ad L x_3) hx hb hts in_F ty_F ty_F_ok n_F hown hK hP hJ hS (2) (by omega) rfl rfl 2 (by decide) (hts _ tw_48) rfl rfl rfl (Nat.le_of_ble_eq_true rfl) (by rw [ex_3]; exact xU_Fi g ad L x_2 2 (by decide) a2) d_F_tell_12 (fun H locs hP hS => ?_)
  refine lv_aload_n hx hb d_F_tell_15 rfl (lv_at hl 0 rfl) ?_
  refine lv_iload_n hx hb d_F_tell_16 rfl (lv_at hl 3 rfl) ?_
  obtain ⟨x_4, ex_4⟩ : ∃ z9, z9 = xI' x_3 7 a3 := ⟨_, rfl⟩
  refine wr_put (E' := xE g ad L x_4) hx hb hts in_F ty_F ty_F_ok n_F hown hK hP hJ hS (2) (by omega) rfl rfl 3 (by decide) (hts _ tw_49) rfl rfl rfl (Nat.le_of_ble_eq_true rfl) (by rw [ex_4]; exact xU_Fi g ad L x_3 3 (by decide) a3) d_F_tell_17 (fun H locs hP hS => ?_)
  refine lv_aload_n hx hb d_F_tell_20 rfl (lv_at hl 0 rfl) ?_
  refine lv_lconst (v := 0) hx hb d_F_tell_21 (by decide) ?_
  obtain ⟨x_5, ex_5⟩ : ∃ z9, z9 = xF' x_4 0 := ⟨_, rfl⟩
  refine wr_put (E' := xE g ad L x_5) hx hb hts in_F ty_F ty_F_ok n_F hown hK hP hJ hS (2) (by omega) rfl rfl 4 (by decide) (hts _ tw_50) rfl rfl rfl (Nat.le_of_ble_eq_true rfl) (by rw [ex_5]; exact xU_F g ad L x_4 0) d_F_tell_22 (fun H locs hP hS => ?_)
  subst ex_1
  subst ex_2
  subst ex_3
  subst ex_4
  subst ex_5
  exact W.vret hx hb hr (fun t ht hW => ⟨⟨(), rfl, trivial, by dsimp only; rw [ht]; (try simp only [x_tell]); exact hP⟩, hS.F ht⟩) hS.2.2 d_F_tell_25
set_option maxHeartbeats 4000000 in
set_option maxRecDepth 100000 in
theorem c_F_adjust (l : Launch) (g : wG) (ad : Nat → Nat) {L : Nat} (hL : 1 ≤ L ∧ L ≤ 6) (x : xS) (a1 : Int64) : CtV l y_F_adjust ws_F_adjust ({ frames := 2, cells := 0, slots := 0, locals := 48 }) g (16 + 2 * L) ad (xE g ad L x) (xE g ad L (x_adjust x a1)) [.ref (ad 2), .long a1] := by
  intro sz
  refine Met.ofW (cc := b_F_adjust) (maxL := 5) (ret := none) (by decide +kernel) rfl ?_
  intro p e s m args below meth c s₁ B hml hv
  obtain ⟨rfl, hsz, hP, hK, hN, hJ⟩ := hv
  have hx := B.exec
  have hb := B.bytes
  have hr := B.returns
  have hts0 := atoms_spec (ws := ws_F_adjust) B.pre
  have hts : ∀ w ∈ tb, w.before _ s = true := fun w h => hts0 w (List.mem_cons_of_mem _ h)
  have hown : s.vm.findClass "HeapSteps$Fan" = some m.cls := findClass_of_methodNamed B.named
  have hlocks := B.notSynchronized
  subst hsz
  have hS : va_S (wA (16 + 2 * L) ad s.heap.size) s.heap s.heap [] := va_S.rf
  have hl := lv_entry ([.ref (ad 2), .long a1]) (n := 5) (Nat.le_of_ble_eq_true rfl)
  rw [lg_entry_eq]
  generalize (lg_sl ([.ref (ad 2), .long a1]) ++ List.replicate (5 - (lg_sl ([.ref (ad 2), .long a1])).length) Slot.unset).toArray = ls at hl ⊢
  have hl : lv_has ls 5 [(0, .ref (ad 2)), (1, .long a1)] := hl
  refine lv_aload_n hx hb d_F_adjust_0 rfl (lv_at hl 0 rfl) ?_
  refine wr_get hx hb hts in_F hown hK hP (2) (by omega) rfl rfl 0 (by decide) (hts _ tw_46) rfl d_F_adjust_1 ?_
  refine lv_if_ne (tgt := 8) hx hb d_F_adjust_4 (by decide) (fun c_1 => ?_) (fun c_1 => ?_)
  · skip
    refine lv_lload_n hx hb d_F_adjust_8 rfl (lv_at hl 1 rfl) ?_
    refine lv_aload_n hx hb d_F_adjust_9 rfl (lv_at hl 0 rfl) ?_
    refine wr_get hx hb hts in_F hown hK hP (2) (by omega) rfl rfl 1 (by decide) (hts _ tw_47) rfl d_F_adjust_10 ?_
    refine lv_i2l hx hb d_F_adjust_13 rfl ?_
    refine lv_lsub hx hb d_F_adjust_14 ?_
    refine lv_topl (fun v_2 ev_2 => ?_)
    refine lv_lstore_n (lv' := [(3, .long v_2), (0, .ref (ad 2)), (1, .long a1)]) hx hb d_F_adjust_15 rfl hl (by decide) rfl (fun ls hl => ?_)
    refine lv_aload_n hx hb d_F_adjust_16 rfl (lv_at hl 1 rfl) ?_
    refine lv_aload_n hx hb d_F_adjust_17 rfl (lv_at hl 1 rfl) ?_
    refine wr_get hx hb hts in_F hown hK hP (2) (by omega) rfl rfl 4 (by decide) (hts _ tw_50) rfl d_F_adjust_18 ?_
    refine lv_lload_n hx hb d_F_adjust_21 rfl (lv_at hl 0 rfl) ?_
    refine lv_ladd hx hb d_F_adjust_22 ?_
    refine lv_ldc2 (v := -1000000000) hx hb hown (hts _ tw_276) d_F_adjust_23 ?_
    refine lv_ldc2 (v := 1000000000) hx hb hown (hts _ tw_277) d_F_adjust_26 ?_
    refine wc_l (va_runSN (As := [.long ((xF x) + v_2), .long (-1000000000), .long 1000000000]) (rest := [.ref (ad 2)]) ⟨hx, hb, hml, hown, hts⟩ (c_X_cut l g _ ad _ ((xF x) + v_2) (-1000000000) 1000000000 _) ⟨va_cnB 3 hts (gd_C tw_280) rfl rfl rfl (wN_278 hN) (hts _ tw_24) (by decide +kernel) ⟨Nat.le_of_ble_eq_true rfl, Nat.le_of_ble_eq_true rfl⟩, hts _ tw_279, trivial⟩ (wp_S hK hN hP hJ) rfl rfl hl.1 rfl (lv_room (Nat.le_of_ble_eq_true rfl)) d_F_adjust_29 ⟨Nat.zero_le _, Nat.zero_le _⟩) hS (fun H locs hP hS => ?_)
    obtain ⟨x_3, ex_3⟩ : ∃ z9, z9 = xF' x (x_cut ((xF x) + v_2) (-1000000000) 1000000000) := ⟨_, rfl⟩
    refine wr_put (E' := xE g ad L x_3) hx hb hts in_F ty_F ty_F_ok n_F hown hK hP hJ hS (2) (by omega) rfl rfl 4 (by decide) (hts _ tw_50) rfl rfl rfl (Nat.le_of_ble_eq_true rfl) (by rw [ex_3]; exact xU_F g ad L x (x_cut ((xF x) + v_2) (-1000000000) 1000000000)) d_F_adjust_32 (fun H locs hP hS => ?_)
    refine lv_aload_n hx hb d_F_adjust_35 rfl (lv_at hl 1 rfl) ?_
    refine lv_aload_n hx hb d_F_adjust_36 rfl (lv_at hl 1 rfl) ?_
    refine wr_get hx hb hts in_F hown hK hP (2) (by omega) rfl rfl 2 (by decide) (hts _ tw_48) rfl d_F_adjust_37 ?_
    refine lv_i2l hx hb d_F_adjust_40 rfl ?_
    refine lv_lload_n hx hb d_F_adjust_41 rfl (lv_at hl 0 rfl) ?_
    refine lv_lmul hx hb d_F_adjust_42 ?_
    refine lv_aload_n hx hb d_F_adjust_43 rfl (lv_at hl 1 rfl) ?_
    refine wr_get hx hb hts in_F hown hK hP (2) (by omega) rfl rfl 3 (by decide) (hts _ tw_49) rfl d_F_adjust_44 ?_
    refine lv_i2l hx hb d_F_adjust_47 rfl ?_
    refine lv_aload_n hx hb d_F_adjust_48 rfl (lv_at hl 1 rfl) ?_
    refine wr_get hx hb hts in_F hown hK hP (2) (by omega) rfl rfl 4 (by decide) (hts _ tw_50) rfl d_F_adjust_49 ?_
    refine lv_lmul hx hb d_F_adjust_52 ?_
    refine lv_ladd hx hb d_F_adjust_53 ?_
    refine lv_ldc2 (v := 1000) hx hb hown (hts _ tw_281) d_F_adjust_54 ?_
    refine wc_l (va_runS (As := [.long (((Int32.toInt64 (xI x_3 6)) * v_2) + ((Int32.toInt64 (xI x_3 7)) * (xF x_3))), .long 1000]) (rest := [.ref (ad 2)]) ⟨hx, hb, hml, hown, hts⟩ (c_J_floorDiv l g _ ad _ (((Int32.toInt64 (xI x_3 6)) * v_2) + ((Int32.toInt64 (xI x_3 7)) * (xF x_3))) 1000 (by decide) _) ⟨callB_of 2 hts (gd_C tw_284) rfl rfl rfl (hts _ tw_29) (hts _ tw_282) (by decide +kernel) ⟨Nat.le_of_ble_eq_true rfl, Nat.le_of_ble_eq_true rfl⟩, hts _ tw_283⟩ (wp_S hK hN hP hJ) rfl rfl hl.1 rfl (lv_room (Nat.le_of_ble_eq_true rfl)) d_F_adjust_57 ⟨Nat.zero_le _, Nat.zero_le _⟩) hS (fun H locs hP hS => ?_)
    refine lv_lconst (v := 0) hx hb d_F_adjust_60 (by decide) ?_
    refine lv_ldc2 (v := 1000) hx hb hown (hts _ tw_281) d_F_adjust_61 ?_
    refine wc_l (va_runSN (As := [.long (x_floorDiv (((Int32.toInt64 (xI x_3 6)) * v_2) + ((Int32.toInt64 (xI x_3 7)) * (xF x_3))) 1000), .long 0, .long 1000]) (rest := [.ref (ad 2)]) ⟨hx, hb, hml, hown, hts⟩ (c_X_cut l g _ ad _ (x_floorDiv (((Int32.toInt64 (xI x_3 6)) * v_2) + ((Int32.toInt64 (xI x_3 7)) * (xF x_3))) 1000) 0 1000 _) ⟨va_cnB 3 hts (gd_C tw_280) rfl rfl rfl (wN_278 hN) (hts _ tw_24) (by decide +kernel) ⟨Nat.le_of_ble_eq_true rfl, Nat.le_of_ble_eq_true rfl⟩, hts _ tw_279, trivial⟩ (wp_S hK hN hP hJ) rfl rfl hl.1 rfl (lv_room (Nat.le_of_ble_eq_true rfl)) d_F_adjust_64 ⟨Nat.zero_le _, Nat.zero_le _⟩) hS (fun H locs hP hS => ?_)
    refine lv_l2i hx hb d_F_adjust_67 rfl ?_
    obtain ⟨x_4, ex_4⟩ : ∃ z9, z9 = xI' x_3 8 (Int64.toInt32 (x_cut (x_floorDiv (((Int32.toInt64 (xI x_3 6)) * v_2) + ((Int32.toInt64 (xI x_3 7)) * (xF x_3))) 1000) 0 1000)) := ⟨_, rfl⟩
    refine wr_put (E' := xE g ad L x_4) hx hb hts in_F ty_F ty_F_ok n_F hown hK hP hJ hS (2) (by omega) rfl rfl 5 (by decide) (hts _ tw_51) rfl rfl rfl (Nat.le_of_ble_eq_true rfl) (by rw [ex_4]; exact xU_Fi g ad L x_3 4 (by decide) (Int64.toInt32 (x_cut (x_floorDiv (((Int32.toInt64 (xI x_3 6)) * v_2) + ((Int32.toInt64 (xI x_3 7)) * (xF x_3))) 1000) 0 1000))) d_F_adjust_68 (fun H locs hP hS => ?_)
    subst ev_2
    subst ex_3
    subst ex_4
    exact W.vret hx hb hr (fun t ht hW => ⟨⟨(), rfl, trivial, by dsimp only; rw [ht]; (try simp only [x_adjust, if_neg c_1]); exact hP⟩, hS.F ht⟩) hS.2.2 d_F_adjust_71
  · skip
    exact W.vret hx hb hr (fun t ht hW => ⟨⟨(), rfl, trivial, by dsimp only; rw [ht]; (try simp only [x_adjust, if_pos c_1]); exact hP⟩, hS.F ht⟩) hS.2.2 d_F_adjust_7
end
section
set_option maxHeartbeats 4000000 in
set_option maxRecDepth 100000 in
theorem c_X_layerAt (l : Launch) (g : wG) (ad : Nat → Nat) {L : Nat} (hL : 1 ≤ L ∧ L ≤ 6) (x : xS) (a1 : Int32) : CtQ l y_X_layerAt ws_X_layerAt ({ frames := 1, cells := 0, slots := 0, locals := 22 }) g (16 + 2 * L) ad (xE g ad L x) (xE g ad L x) [.ref (ad 0), .int a1] ((x_la L a1).map (fun i => ad (7 + 2 * i))) := by
  intro sz
  refine Met.ofW (cc := b_X_layerAt) (maxL := 2) (ret := (some (.object "HeapSteps$Layer"))) (by decide +kernel) rfl ?_
  intro p e s m args below meth c s₁ B hml hv
  obtain ⟨rfl, hsz, hP, hK, hN, hJ⟩ := hv
  have hx := B.exec
  have hb := B.bytes
  have hr := B.returns
  have hts0 := atoms_spec (ws := ws_X_layerAt) B.pre
  have hts : ∀ w ∈ tb, w.before _ s = true := fun w h => hts0 w (List.mem_cons_of_mem _ h)
  have hown : s.vm.findClass "HeapSteps" = some m.cls := findClass_of_methodNamed B.named
  have hlocks := B.notSynchronized
  subst hsz
  have hS : va_S (wA (16 + 2 * L) ad s.heap.size) s.heap s.heap [] := va_S.rf
  have hl := lv_entry ([.ref (ad 0), .int a1]) (n := 2) (Nat.le_of_ble_eq_true rfl)
  rw [lg_entry_eq]
  generalize (lg_sl ([.ref (ad 0), .int a1]) ++ List.replicate (2 - (lg_sl ([.ref (ad 0), .int a1])).length) Slot.unset).toArray = ls at hl ⊢
  have hl : lv_has ls 2 [(0, .ref (ad 0)), (1, .int a1)] := hl
  refine lv_iload_n hx hb d_X_layerAt_0 rfl (lv_at hl 1 rfl) ?_
  refine lv_iconst (v := 0) hx hb d_X_layerAt_1 (by decide) ?_
  refine lv_aload_n hx hb d_X_layerAt_2 rfl (lv_at hl 0 rfl) ?_
  refine wr_get hx hb hts in_X hown hK hP (0) (by omega) rfl rfl 0 (by decide) (hts _ tw_116) rfl d_X_layerAt_3 ?_
  refine wr_alen (v := nI L) hx hb hK hP (6) 2 (by omega) rfl rfl rfl d_X_layerAt_6 ?_
  refine lv_iconst (v := 1) hx hb d_X_layerAt_7 (by decide) ?_
  refine lv_isub hx hb d_X_layerAt_8 ?_
  refine wc_i (va_runS (As := [.int a1, .int 0, .int ((nI L) - 1)]) (rest := []) ⟨hx, hb, hml, hown, hts⟩ (c_X_within l g _ ad _ a1 0 ((nI L) - 1) _) (cwS 3 hts (gd_S tw_67 tw_68 tw_24 tw_69) rfl rfl rfl (by decide +kernel) ⟨Nat.le_of_ble_eq_true rfl, Nat.le_of_ble_eq_true rfl⟩) (wp_S hK hN hP hJ) rfl rfl hl.1 rfl (lv_room (Nat.le_of_ble_eq_true rfl)) d_X_layerAt_9 ⟨Nat.zero_le _, Nat.zero_le _⟩) hS (fun H locs hP hS => ?_)
  refine lv_if_eq (tgt := 24) hx hb d_X_layerAt_12 (by decide) (fun c_1 => ?_) (fun c_1 => ?_)
  · skip
    refine lv_null hx hb d_X_layerAt_24 ?_
    exact W.aret hx hb hr (Or.inl ⟨_, rfl⟩) (Or.inl rfl) (fun t ht hW => ⟨⟨none, (), rfl, by (try simp only [x_la, Option.map_some, Option.map_none, if_pos c_1]); first | done | rfl, by dsimp only; rw [ht]; (try simp only [x_la, Option.map_some, Option.map_none, if_pos c_1]); exact hP⟩, hS.F ht⟩) hS.2.2 d_X_layerAt_25
  · skip
    obtain ⟨i, hi, rfl⟩ := x_la_some hL c_1
    refine lv_aload_n hx hb d_X_layerAt_15 rfl (lv_at hl 0 rfl) ?_
    refine wr_get hx hb hts in_X hown hK hP (0) (by omega) rfl rfl 0 (by decide) (hts _ tw_116) rfl d_X_layerAt_16 ?_
    refine lv_iload_n hx hb d_X_layerAt_19 rfl (lv_at hl 1 rfl) ?_
    refine wr_aldq hx hb hK hP (6) 2 (by omega) rfl rfl i rfl (by omega) (by omega) (v := ad (7 + 2 * i)) (if_pos hi) d_X_layerAt_20 ?_
    refine lv_goto (tgt := 25) hx hb d_X_layerAt_21 (by decide) ?_
    exact W.aret hx hb hr (Or.inl ⟨_, rfl⟩) (Or.inr ⟨_, rfl⟩) (fun t ht hW => ⟨⟨some (ad (7 + 2 * i)), (), rfl, by (try simp only [x_la, Option.map_some, Option.map_none, if_neg c_1, nI_clamp (show i < 2 ^ 31 by omega)]); first | done | rfl, by dsimp only; rw [ht]; (try simp only [x_la, Option.map_some, Option.map_none, if_neg c_1, nI_clamp (show i < 2 ^ 31 by omega)]); exact hP⟩, hS.F ht⟩) hS.2.2 d_X_layerAt_25
set_option maxHeartbeats 4000000 in
set_option maxRecDepth 100000 in
theorem c_X_bringN (l : Launch) (g : wG) (ad : Nat → Nat) {L : Nat} (hL : 1 ≤ L ∧ L ≤ 6) (x : xS) (a2 a3 : Int32) (a4 : Int64) : CtI l y_X_bring ws_X_bring ({ frames := 0, cells := 0, slots := 0, locals := 0 }) g (16 + 2 * L) ad (xE g ad L x) (xE g ad L x) [.ref (ad 0), .null, .int a2, .int a3, .long a4] 0 := by
  intro sz
  refine Met.ofW (cc := b_X_bring) (maxL := 6) (ret := (some .boolean)) (by decide +kernel) rfl ?_
  intro p e s m args below meth c s₁ B hml hv
  obtain ⟨rfl, hsz, hP, hK, hN, hJ⟩ := hv
  have hx := B.exec
  have hb := B.bytes
  have hr := B.returns
  have hts0 := atoms_spec (ws := ws_X_bring) B.pre
  have hts : ∀ w ∈ tb, w.before _ s = true := fun w h => hts0 w (List.mem_cons_of_mem _ h)
  have hown : s.vm.findClass "HeapSteps" = some m.cls := findClass_of_methodNamed B.named
  have hlocks := B.notSynchronized
  subst hsz
  have hS : va_S (wA (16 + 2 * L) ad s.heap.size) s.heap s.heap [] := va_S.rf
  have hl := lv_entry ([.ref (ad 0), .null, .int a2, .int a3, .long a4]) (n := 6) (Nat.le_of_ble_eq_true rfl)
  rw [lg_entry_eq]
  generalize (lg_sl ([.ref (ad 0), .null, .int a2, .int a3, .long a4]) ++ List.replicate (6 - (lg_sl ([.ref (ad 0), .null, .int a2, .int a3, .long a4])).length) Slot.unset).toArray = ls at hl ⊢
  have hl : lv_has ls 6 [(0, .ref (ad 0)), (1, .null), (2, .int a2), (3, .int a3), (4, .long a4)] := hl
  refine lv_aload_nN hx hb d_X_bring_0 rfl (lv_at hl 1 rfl) ?_
  refine lv_ifnullN (tgt := 19) hx hb d_X_bring_1 (by decide) ?_
  refine lv_iconst (v := 0) hx hb d_X_bring_19 (by decide) ?_
  exact W.zret hx hb hr rfl (fun t ht hW => ⟨⟨_, (), rfl, by skip; first | done | rfl, by dsimp only; rw [ht]; skip; exact hP⟩, hS.F ht⟩) hS.2.2 d_X_bring_20
set_option maxHeartbeats 4000000 in
set_option maxRecDepth 100000 in
theorem c_X_bring (l : Launch) (g : wG) (ad : Nat → Nat) {L : Nat} (hL : 1 ≤ L ∧ L ≤ 6) (x : xS) {i : Nat} (hi : i < L) (k : Nat) (hk : k < 5) (a3 : Int32) (a4 : Int64) : CtI l y_X_bring ws_X_bring ({ frames := 0, cells := 0, slots := 0, locals := 0 }) g (16 + 2 * L) ad (xE g ad L x) (xE g ad L (x_bring x i k a3 a4).2) [.ref (ad 0), .ref (ad (7 + 2 * i)), .int (nI k), .int a3, .long a4] (x_bring x i k a3 a4).1 := by
  intro sz
  refine Met.ofW (cc := b_X_bring) (maxL := 6) (ret := (some .boolean)) (by decide +kernel) rfl ?_
  intro p e s m args below meth c s₁ B hml hv
  obtain ⟨rfl, hsz, hP, hK, hN, hJ⟩ := hv
  have hx := B.exec
  have hb := B.bytes
  have hr := B.returns
  have hts0 := atoms_spec (ws := ws_X_bring) B.pre
  have hts : ∀ w ∈ tb, w.before _ s = true := fun w h => hts0 w (List.mem_cons_of_mem _ h)
  have hown : s.vm.findClass "HeapSteps" = some m.cls := findClass_of_methodNamed B.named
  have hlocks := B.notSynchronized
  subst hsz
  have hS : va_S (wA (16 + 2 * L) ad s.heap.size) s.heap s.heap [] := va_S.rf
  have hl := lv_entry ([.ref (ad 0), .ref (ad (7 + 2 * i)), .int (nI k), .int a3, .long a4]) (n := 6) (Nat.le_of_ble_eq_true rfl)
  rw [lg_entry_eq]
  generalize (lg_sl ([.ref (ad 0), .ref (ad (7 + 2 * i)), .int (nI k), .int a3, .long a4]) ++ List.replicate (6 - (lg_sl ([.ref (ad 0), .ref (ad (7 + 2 * i)), .int (nI k), .int a3, .long a4])).length) Slot.unset).toArray = ls at hl ⊢
  have hl : lv_has ls 6 [(0, .ref (ad 0)), (1, .ref (ad (7 + 2 * i))), (2, .int (nI k)), (3, .int a3), (4, .long a4)] := hl
  refine lv_aload_n hx hb d_X_bring_0 rfl (lv_at hl 1 rfl) ?_
  refine lv_ifnull hx hb d_X_bring_1 ?_
  refine lv_aload_n hx hb d_X_bring_4 rfl (lv_at hl 1 rfl) ?_
  refine wr_get hx hb hts in_Y hown hK hP (7 + 2 * i) (by omega) (xE_lay g ad L x hi) rfl 0 (by decide) (hts _ tw_79) rfl d_X_bring_5 ?_
  refine lv_iload_n hx hb d_X_bring_8 rfl (lv_at hl 2 rfl) ?_
  refine wr_lald hx hb hK hP (8 + 2 * i) 0 (by omega) (xE_stk g ad L x hi) rfl k rfl (by omega) (by omega) d_X_bring_9 ?_
  refine lv_iload_n hx hb d_X_bring_10 rfl (lv_at hl 3 rfl) ?_
  refine lv_i2l hx hb d_X_bring_11 rfl ?_
  refine lv_ladd hx hb d_X_bring_12 ?_
  refine lv_lload hx hb d_X_bring_13 (lv_at hl 4 rfl) ?_
  refine W.lcmp hx hb d_X_bring_15 ?_
  refine lv_if_le (tgt := 21) hx hb d_X_bring_16 (by decide) (fun c_1 => ?_) (fun c_1 => ?_)
  · skip
    refine lv_aload_n hx hb d_X_bring_21 rfl (lv_at hl 1 rfl) ?_
    refine wr_get hx hb hts in_Y hown hK hP (7 + 2 * i) (by omega) (xE_lay g ad L x hi) rfl 0 (by decide) (hts _ tw_79) rfl d_X_bring_22 ?_
    refine lv_iload_n hx hb d_X_bring_25 rfl (lv_at hl 2 rfl) ?_
    refine lv_dup2_11 hx hb d_X_bring_26 rfl rfl ?_
    refine wr_lald hx hb hK hP (8 + 2 * i) 0 (by omega) (xE_stk g ad L x hi) rfl k rfl (by omega) (by omega) d_X_bring_27 ?_
    refine lv_iload_n hx hb d_X_bring_28 rfl (lv_at hl 3 rfl) ?_
    refine lv_i2l hx hb d_X_bring_29 rfl ?_
    refine lv_ladd hx hb d_X_bring_30 ?_
    obtain ⟨x_2, ex_2⟩ : ∃ z9, z9 = xT' x i k ((xT x i k) + (Int32.toInt64 a3)) := ⟨_, rfl⟩
    refine wr_last (E' := xE g ad L x_2) hx hb hK hP hJ hS (8 + 2 * i) 0 (by omega) (xE_stk g ad L x hi) rfl k rfl (by omega) (by omega) (by rw [ex_2]; exact xU_T g ad L x hi k ((xT x i k) + (Int32.toInt64 a3))) d_X_bring_31 (fun H locs hP hS => ?_)
    refine lv_aload_n hx hb d_X_bring_32 rfl (lv_at hl 0 rfl) ?_
    refine wr_get hx hb hts in_X hown hK hP (0) (by omega) rfl rfl 4 (by decide) (hts _ tw_120) rfl d_X_bring_33 ?_
    refine lv_iload_n hx hb d_X_bring_36 rfl (lv_at hl 2 rfl) ?_
    refine lv_dup2_11 hx hb d_X_bring_37 rfl rfl ?_
    refine wr_lald hx hb hK hP (4) 0 (by omega) rfl rfl k rfl (by omega) (by omega) d_X_bring_38 ?_
    refine lv_iload_n hx hb d_X_bring_39 rfl (lv_at hl 3 rfl) ?_
    refine lv_i2l hx hb d_X_bring_40 rfl ?_
    refine lv_ladd hx hb d_X_bring_41 ?_
    obtain ⟨x_3, ex_3⟩ : ∃ z9, z9 = xO' x_2 1 k ((xO x_2 1 k) + (Int32.toInt64 a3)) := ⟨_, rfl⟩
    refine wr_last (E' := xE g ad L x_3) hx hb hK hP hJ hS (4) 0 (by omega) rfl rfl k rfl (by omega) (by omega) (by rw [ex_3]; exact xU_O g ad L x_2 1 k (by decide) ((xO x_2 1 k) + (Int32.toInt64 a3))) d_X_bring_42 (fun H locs hP hS => ?_)
    refine lv_iconst (v := 1) hx hb d_X_bring_43 (by decide) ?_
    subst ex_2
    subst ex_3
    exact W.zret hx hb hr rfl (fun t ht hW => ⟨⟨_, (), rfl, by (try simp only [x_bring, if_pos c_1]); first | done | rfl, by dsimp only; rw [ht]; (try simp only [x_bring, if_pos c_1]); exact hP⟩, hS.F ht⟩) hS.2.2 d_X_bring_44
  · skip
    refine lv_iconst (v := 0) hx hb d_X_bring_19 (by decide) ?_
    exact W.zret hx hb hr rfl (fun t ht hW => ⟨⟨_, (), rfl, by (try simp only [x_bring, if_neg c_1]); first | done | rfl, by dsimp only; rw [ht]; (try simp only [x_bring, if_neg c_1]); exact hP⟩, hS.F ht⟩) hS.2.2 d_X_bring_20
set_option maxHeartbeats 4000000 in
set_option maxRecDepth 100000 in
theorem c_X_part (l : Launch) (g : wG) (ad : Nat → Nat) {L : Nat} (hL : 1 ≤ L ∧ L ≤ 6) (x : xS) (a1 a2 a3 : Int32) : CtI l y_X_part ws_X_part ({ frames := 2, cells := 0, slots := 0, locals := 43 }) g (16 + 2 * L) ad (xE g ad L x) (xE g ad L (x_part L x a1 a2 a3).2) [.ref (ad 0), .int a1, .int a2, .int a3] (x_part L x a1 a2 a3).1 := by
  intro sz
  refine Met.ofW (cc := b_X_part) (maxL := 4) (ret := (some .boolean)) (by decide +kernel) rfl ?_
  intro p e s m args below meth c s₁ B hml hv
  obtain ⟨rfl, hsz, hP, hK, hN, hJ⟩ := hv
  have hx := B.exec
  have hb := B.bytes
  have hr := B.returns
  have hts0 := atoms_spec (ws := ws_X_part) B.pre
  have hts : ∀ w ∈ tb, w.before _ s = true := fun w h => hts0 w (List.mem_cons_of_mem _ h)
  have hown : s.vm.findClass "HeapSteps" = some m.cls := findClass_of_methodNamed B.named
  have hlocks := B.notSynchronized
  subst hsz
  have hS : va_S (wA (16 + 2 * L) ad s.heap.size) s.heap s.heap [] := va_S.rf
  have hl := lv_entry ([.ref (ad 0), .int a1, .int a2, .int a3]) (n := 4) (Nat.le_of_ble_eq_true rfl)
  rw [lg_entry_eq]
  generalize (lg_sl ([.ref (ad 0), .int a1, .int a2, .int a3]) ++ List.replicate (4 - (lg_sl ([.ref (ad 0), .int a1, .int a2, .int a3])).length) Slot.unset).toArray = ls at hl ⊢
  have hl : lv_has ls 4 [(0, .ref (ad 0)), (1, .int a1), (2, .int a2), (3, .int a3)] := hl
  refine lv_iload_n hx hb d_X_part_0 rfl (lv_at hl 2 rfl) ?_
  refine wc_i (va_runS (As := [.int a2]) (rest := []) ⟨hx, hb, hml, hown, hts⟩ (c_X_isPart l g _ ad _ a2 _) (cwS 1 hts (gd_S tw_151 tw_152 tw_24 tw_153) rfl rfl rfl (by decide +kernel) ⟨Nat.le_of_ble_eq_true rfl, Nat.le_of_ble_eq_true rfl⟩) (wp_S hK hN hP hJ) rfl rfl hl.1 rfl (lv_room (Nat.le_of_ble_eq_true rfl)) d_X_part_1 ⟨Nat.zero_le _, Nat.zero_le _⟩) hS (fun H locs hP hS => ?_)
  refine lv_if_eq (tgt := 17) hx hb d_X_part_4 (by decide) (fun c_1 => ?_) (fun c_1 => ?_)
  · skip
    refine lv_iconst (v := 0) hx hb d_X_part_17 (by decide) ?_
    exact W.zret hx hb hr rfl (fun t ht hW => ⟨⟨_, (), rfl, by (try simp only [x_part, x_bringAt, if_pos c_1]); first | done | rfl, by dsimp only; rw [ht]; (try simp only [x_part, x_bringAt, if_pos c_1]); exact hP⟩, hS.F ht⟩) hS.2.2 d_X_part_18
  · skip
    refine lv_iload_n hx hb d_X_part_7 rfl (lv_at hl 3 rfl) ?_
    refine lv_iconst (v := 0) hx hb d_X_part_8 (by decide) ?_
    refine lv_ldc (v := 1000000) hx hb hown (hts _ tw_154) d_X_part_9 ?_
    refine wc_i (va_runS (As := [.int a3, .int 0, .int 1000000]) (rest := []) ⟨hx, hb, hml, hown, hts⟩ (c_X_within l g _ ad _ a3 0 1000000 _) (cwS 3 hts (gd_S tw_67 tw_68 tw_24 tw_69) rfl rfl rfl (by decide +kernel) ⟨Nat.le_of_ble_eq_true rfl, Nat.le_of_ble_eq_true rfl⟩) (wp_S hK hN hP hJ) rfl rfl hl.1 rfl (lv_room (Nat.le_of_ble_eq_true rfl)) d_X_part_11 ⟨Nat.zero_le _, Nat.zero_le _⟩) hS (fun H locs hP hS => ?_)
    refine lv_if_ne (tgt := 19) hx hb d_X_part_14 (by decide) (fun c_2 => ?_) (fun c_2 => ?_)
    · skip
      obtain ⟨k, hk, rfl⟩ := x_within_nat (n := 2) (by decide) c_1
      refine lv_aload_n hx hb d_X_part_19 rfl (lv_at hl 0 rfl) ?_
      refine lv_aload_n hx hb d_X_part_20 rfl (lv_at hl 0 rfl) ?_
      refine lv_iload_n hx hb d_X_part_21 rfl (lv_at hl 1 rfl) ?_
      refine wc_q (va_runV (As := [.int a1]) (rest := [.ref (ad 0)]) ⟨hx, hb, hml, hown, hts⟩ (c_X_layerAt l g ad hL x a1 _) (cwV 1 hts (gd_V tw_155 tw_157 tw_0 tw_24 tw_158) rfl rfl rfl (by decide +kernel) ⟨Nat.le_of_ble_eq_true rfl, Nat.le_of_ble_eq_true rfl⟩) (wp_V hK hN hP hJ (0) (by omega) rfl rfl) rfl rfl hl.1 rfl (lv_room (Nat.le_of_ble_eq_true rfl)) d_X_part_22 ⟨Nat.zero_le _, Nat.zero_le _⟩) hS (fun H locs hP hS => ?_)
      rcases x_la_cases hL a1 with q_3 | ⟨i_4, hi_4, hni_4, q_3⟩
      · rw [q_3]
        refine W.eq (g2 := F0 m 25 ls [.null, .ref (ad 0)]) rfl ?_
        refine lv_iload_n hx hb d_X_part_25 rfl (lv_at hl 2 rfl) ?_
        refine lv_iload_n hx hb d_X_part_26 rfl (lv_at hl 3 rfl) ?_
        refine lv_ldc2 (v := 1000000000) hx hb hown (hts _ tw_159) d_X_part_27 ?_
        refine wc_i (va_runV (As := [.null, .int (nI k), .int a3, .long 1000000000]) (rest := []) ⟨hx, hb, hml, hown, hts⟩ (c_X_bringN l g ad hL x (nI k) a3 1000000000 _) (cwV 4 hts (gd_V tw_160 tw_162 tw_1 tw_24 tw_163) rfl rfl rfl (by decide +kernel) ⟨Nat.le_of_ble_eq_true rfl, Nat.le_of_ble_eq_true rfl⟩) (wp_V hK hN hP hJ (0) (by omega) rfl rfl) rfl rfl hl.1 rfl (lv_room (Nat.le_of_ble_eq_true rfl)) d_X_part_30 ⟨Nat.zero_le _, Nat.zero_le _⟩) hS (fun H locs hP hS => ?_)
        exact W.zret hx hb hr rfl (fun t ht hW => ⟨⟨_, (), rfl, by (try simp only [x_part, x_bringAt, if_neg c_1, if_neg c_2, q_3, nI_clamp (show k < 2 ^ 31 by omega)]); first | done | rfl, by dsimp only; rw [ht]; (try simp only [x_part, x_bringAt, if_neg c_1, if_neg c_2, q_3, nI_clamp (show k < 2 ^ 31 by omega)]); exact hP⟩, hS.F ht⟩) hS.2.2 d_X_part_33
      · rw [q_3]
        refine W.eq (g2 := F0 m 25 ls [.ref (ad (7 + 2 * i_4)), .ref (ad 0)]) rfl ?_
        refine lv_iload_n hx hb d_X_part_25 rfl (lv_at hl 2 rfl) ?_
        refine lv_iload_n hx hb d_X_part_26 rfl (lv_at hl 3 rfl) ?_
        refine lv_ldc2 (v := 1000000000) hx hb hown (hts _ tw_159) d_X_part_27 ?_
        refine wc_i (va_runV (As := [.ref (ad (7 + 2 * i_4)), .int (nI k), .int a3, .long 1000000000]) (rest := []) ⟨hx, hb, hml, hown, hts⟩ (c_X_bring l g ad hL x hi_4 k (by omega) a3 1000000000 _) (cwV 4 hts (gd_V tw_160 tw_162 tw_1 tw_24 tw_163) rfl rfl rfl (by decide +kernel) ⟨Nat.le_of_ble_eq_true rfl, Nat.le_of_ble_eq_true rfl⟩) (wp_V hK hN hP hJ (0) (by omega) rfl rfl) rfl rfl hl.1 rfl (lv_room (Nat.le_of_ble_eq_true rfl)) d_X_part_30 ⟨Nat.zero_le _, Nat.zero_le _⟩) hS (fun H locs hP hS => ?_)
        obtain ⟨x_5, ex_5⟩ : ∃ z9, z9 = (x_bring x i_4 k a3 1000000000).2 := ⟨_, rfl⟩
        rw [← ex_5] at hP
        subst ex_5
        exact W.zret hx hb hr (nb_01 (x_bring_01 _ _ _ _ _)) (fun t ht hW => ⟨⟨_, (), rfl, by (try simp only [x_part, x_bringAt, if_neg c_1, if_neg c_2, q_3, nI_clamp (show k < 2 ^ 31 by omega)]); first | done | rfl, by dsimp only; rw [ht]; (try simp only [x_part, x_bringAt, if_neg c_1, if_neg c_2, q_3, nI_clamp (show k < 2 ^ 31 by omega)]); exact hP⟩, hS.F ht⟩) hS.2.2 d_X_part_33
    · skip
      refine lv_iconst (v := 0) hx hb d_X_part_17 (by decide) ?_
      exact W.zret hx hb hr rfl (fun t ht hW => ⟨⟨_, (), rfl, by (try simp only [x_part, x_bringAt, if_neg c_1, if_pos c_2]); first | done | rfl, by dsimp only; rw [ht]; (try simp only [x_part, x_bringAt, if_neg c_1, if_pos c_2]); exact hP⟩, hS.F ht⟩) hS.2.2 d_X_part_18
set_option maxHeartbeats 4000000 in
set_option maxRecDepth 100000 in
theorem c_X_water (l : Launch) (g : wG) (ad : Nat → Nat) {L : Nat} (hL : 1 ≤ L ∧ L ≤ 6) (x : xS) (a1 a2 : Int32) : CtI l y_X_water ws_X_water ({ frames := 2, cells := 0, slots := 0, locals := 43 }) g (16 + 2 * L) ad (xE g ad L x) (xE g ad L (x_water L x a1 a2).2) [.ref (ad 0), .int a1, .int a2] (x_water L x a1 a2).1 := by
  intro sz
  refine Met.ofW (cc := b_X_water) (maxL := 3) (ret := (some .boolean)) (by decide +kernel) rfl ?_
  intro p e s m args below meth c s₁ B hml hv
  obtain ⟨rfl, hsz, hP, hK, hN, hJ⟩ := hv
  have hx := B.exec
  have hb := B.bytes
  have hr := B.returns
  have hts0 := atoms_spec (ws := ws_X_water) B.pre
  have hts : ∀ w ∈ tb, w.before _ s = true := fun w h => hts0 w (List.mem_cons_of_mem _ h)
  have hown : s.vm.findClass "HeapSteps" = some m.cls := findClass_of_methodNamed B.named
  have hlocks := B.notSynchronized
  subst hsz
  have hS : va_S (wA (16 + 2 * L) ad s.heap.size) s.heap s.heap [] := va_S.rf
  have hl := lv_entry ([.ref (ad 0), .int a1, .int a2]) (n := 3) (Nat.le_of_ble_eq_true rfl)
  rw [lg_entry_eq]
  generalize (lg_sl ([.ref (ad 0), .int a1, .int a2]) ++ List.replicate (3 - (lg_sl ([.ref (ad 0), .int a1, .int a2])).length) Slot.unset).toArray = ls at hl ⊢
  have hl : lv_has ls 3 [(0, .ref (ad 0)), (1, .int a1), (2, .int a2)] := hl
  refine lv_iload_n hx hb d_X_water_0 rfl (lv_at hl 2 rfl) ?_
  refine lv_iconst (v := 0) hx hb d_X_water_1 (by decide) ?_
  refine lv_ldc (v := 1000000) hx hb hown (hts _ tw_154) d_X_water_2 ?_
  refine wc_i (va_runS (As := [.int a2, .int 0, .int 1000000]) (rest := []) ⟨hx, hb, hml, hown, hts⟩ (c_X_within l g _ ad _ a2 0 1000000 _) (cwS 3 hts (gd_S tw_67 tw_68 tw_24 tw_69) rfl rfl rfl (by decide +kernel) ⟨Nat.le_of_ble_eq_true rfl, Nat.le_of_ble_eq_true rfl⟩) (wp_S hK hN hP hJ) rfl rfl hl.1 rfl (lv_room (Nat.le_of_ble_eq_true rfl)) d_X_water_4 ⟨Nat.zero_le _, Nat.zero_le _⟩) hS (fun H locs hP hS => ?_)
  refine lv_if_ne (tgt := 12) hx hb d_X_water_7 (by decide) (fun c_1 => ?_) (fun c_1 => ?_)
  · skip
    refine lv_aload_n hx hb d_X_water_12 rfl (lv_at hl 0 rfl) ?_
    refine lv_aload_n hx hb d_X_water_13 rfl (lv_at hl 0 rfl) ?_
    refine lv_iload_n hx hb d_X_water_14 rfl (lv_at hl 1 rfl) ?_
    refine wc_q (va_runV (As := [.int a1]) (rest := [.ref (ad 0)]) ⟨hx, hb, hml, hown, hts⟩ (c_X_layerAt l g ad hL x a1 _) (cwV 1 hts (gd_V tw_155 tw_157 tw_0 tw_24 tw_158) rfl rfl rfl (by decide +kernel) ⟨Nat.le_of_ble_eq_true rfl, Nat.le_of_ble_eq_true rfl⟩) (wp_V hK hN hP hJ (0) (by omega) rfl rfl) rfl rfl hl.1 rfl (lv_room (Nat.le_of_ble_eq_true rfl)) d_X_water_15 ⟨Nat.zero_le _, Nat.zero_le _⟩) hS (fun H locs hP hS => ?_)
    rcases x_la_cases hL a1 with q_2 | ⟨i_3, hi_3, hni_3, q_2⟩
    · rw [q_2]
      refine W.eq (g2 := F0 m 18 ls [.null, .ref (ad 0)]) rfl ?_
      refine lv_iconst (v := 3) hx hb d_X_water_18 (by decide) ?_
      refine lv_iload_n hx hb d_X_water_19 rfl (lv_at hl 2 rfl) ?_
      refine lv_ldc2 (v := 1000000000) hx hb hown (hts _ tw_159) d_X_water_20 ?_
      refine wc_i (va_runV (As := [.null, .int 3, .int a2, .long 1000000000]) (rest := []) ⟨hx, hb, hml, hown, hts⟩ (c_X_bringN l g ad hL x 3 a2 1000000000 _) (cwV 4 hts (gd_V tw_160 tw_162 tw_1 tw_24 tw_163) rfl rfl rfl (by decide +kernel) ⟨Nat.le_of_ble_eq_true rfl, Nat.le_of_ble_eq_true rfl⟩) (wp_V hK hN hP hJ (0) (by omega) rfl rfl) rfl rfl hl.1 rfl (lv_room (Nat.le_of_ble_eq_true rfl)) d_X_water_23 ⟨Nat.zero_le _, Nat.zero_le _⟩) hS (fun H locs hP hS => ?_)
      exact W.zret hx hb hr rfl (fun t ht hW => ⟨⟨_, (), rfl, by (try simp only [x_water, x_bringAt, if_neg c_1, q_2]); first | done | rfl, by dsimp only; rw [ht]; (try simp only [x_water, x_bringAt, if_neg c_1, q_2]); exact hP⟩, hS.F ht⟩) hS.2.2 d_X_water_26
    · rw [q_2]
      refine W.eq (g2 := F0 m 18 ls [.ref (ad (7 + 2 * i_3)), .ref (ad 0)]) rfl ?_
      refine lv_iconst (v := 3) hx hb d_X_water_18 (by decide) ?_
      refine lv_iload_n hx hb d_X_water_19 rfl (lv_at hl 2 rfl) ?_
      refine lv_ldc2 (v := 1000000000) hx hb hown (hts _ tw_159) d_X_water_20 ?_
      refine wc_i (va_runV (As := [.ref (ad (7 + 2 * i_3)), .int 3, .int a2, .long 1000000000]) (rest := []) ⟨hx, hb, hml, hown, hts⟩ (c_X_bring l g ad hL x hi_3 3 (by omega) a2 1000000000 _) (cwV 4 hts (gd_V tw_160 tw_162 tw_1 tw_24 tw_163) rfl rfl rfl (by decide +kernel) ⟨Nat.le_of_ble_eq_true rfl, Nat.le_of_ble_eq_true rfl⟩) (wp_V hK hN hP hJ (0) (by omega) rfl rfl) rfl rfl hl.1 rfl (lv_room (Nat.le_of_ble_eq_true rfl)) d_X_water_23 ⟨Nat.zero_le _, Nat.zero_le _⟩) hS (fun H locs hP hS => ?_)
      obtain ⟨x_4, ex_4⟩ : ∃ z9, z9 = (x_bring x i_3 3 a2 1000000000).2 := ⟨_, rfl⟩
      rw [← ex_4] at hP
      subst ex_4
      exact W.zret hx hb hr (nb_01 (x_bring_01 _ _ _ _ _)) (fun t ht hW => ⟨⟨_, (), rfl, by (try simp only [x_water, x_bringAt, if_neg c_1, q_2]); first | done | rfl, by dsimp only; rw [ht]; (try simp only [x_water, x_bringAt, if_neg c_1, q_2]); exact hP⟩, hS.F ht⟩) hS.2.2 d_X_water_26
  · skip
    refine lv_iconst (v := 0) hx hb d_X_water_10 (by decide) ?_
    exact W.zret hx hb hr rfl (fun t ht hW => ⟨⟨_, (), rfl, by (try simp only [x_water, x_bringAt, if_pos c_1]); first | done | rfl, by dsimp only; rw [ht]; (try simp only [x_water, x_bringAt, if_pos c_1]); exact hP⟩, hS.F ht⟩) hS.2.2 d_X_water_11
set_option maxHeartbeats 4000000 in
set_option maxRecDepth 100000 in
theorem c_X_heat (l : Launch) (g : wG) (ad : Nat → Nat) {L : Nat} (hL : 1 ≤ L ∧ L ≤ 6) (x : xS) (a1 a2 : Int32) : CtI l y_X_heat ws_X_heat ({ frames := 2, cells := 0, slots := 0, locals := 43 }) g (16 + 2 * L) ad (xE g ad L x) (xE g ad L (x_heat L x a1 a2).2) [.ref (ad 0), .int a1, .int a2] (x_heat L x a1 a2).1 := by
  intro sz
  refine Met.ofW (cc := b_X_heat) (maxL := 3) (ret := (some .boolean)) (by decide +kernel) rfl ?_
  intro p e s m args below meth c s₁ B hml hv
  obtain ⟨rfl, hsz, hP, hK, hN, hJ⟩ := hv
  have hx := B.exec
  have hb := B.bytes
  have hr := B.returns
  have hts0 := atoms_spec (ws := ws_X_heat) B.pre
  have hts : ∀ w ∈ tb, w.before _ s = true := fun w h => hts0 w (List.mem_cons_of_mem _ h)
  have hown : s.vm.findClass "HeapSteps" = some m.cls := findClass_of_methodNamed B.named
  have hlocks := B.notSynchronized
  subst hsz
  have hS : va_S (wA (16 + 2 * L) ad s.heap.size) s.heap s.heap [] := va_S.rf
  have hl := lv_entry ([.ref (ad 0), .int a1, .int a2]) (n := 3) (Nat.le_of_ble_eq_true rfl)
  rw [lg_entry_eq]
  generalize (lg_sl ([.ref (ad 0), .int a1, .int a2]) ++ List.replicate (3 - (lg_sl ([.ref (ad 0), .int a1, .int a2])).length) Slot.unset).toArray = ls at hl ⊢
  have hl : lv_has ls 3 [(0, .ref (ad 0)), (1, .int a1), (2, .int a2)] := hl
  refine lv_iload_n hx hb d_X_heat_0 rfl (lv_at hl 2 rfl) ?_
  refine lv_iconst (v := 0) hx hb d_X_heat_1 (by decide) ?_
  refine lv_ldc (v := 1000000000) hx hb hown (hts _ tw_66) d_X_heat_2 ?_
  refine wc_i (va_runS (As := [.int a2, .int 0, .int 1000000000]) (rest := []) ⟨hx, hb, hml, hown, hts⟩ (c_X_within l g _ ad _ a2 0 1000000000 _) (cwS 3 hts (gd_S tw_67 tw_68 tw_24 tw_69) rfl rfl rfl (by decide +kernel) ⟨Nat.le_of_ble_eq_true rfl, Nat.le_of_ble_eq_true rfl⟩) (wp_S hK hN hP hJ) rfl rfl hl.1 rfl (lv_room (Nat.le_of_ble_eq_true rfl)) d_X_heat_4 ⟨Nat.zero_le _, Nat.zero_le _⟩) hS (fun H locs hP hS => ?_)
  refine lv_if_ne (tgt := 12) hx hb d_X_heat_7 (by decide) (fun c_1 => ?_) (fun c_1 => ?_)
  · skip
    refine lv_aload_n hx hb d_X_heat_12 rfl (lv_at hl 0 rfl) ?_
    refine lv_aload_n hx hb d_X_heat_13 rfl (lv_at hl 0 rfl) ?_
    refine lv_iload_n hx hb d_X_heat_14 rfl (lv_at hl 1 rfl) ?_
    refine wc_q (va_runV (As := [.int a1]) (rest := [.ref (ad 0)]) ⟨hx, hb, hml, hown, hts⟩ (c_X_layerAt l g ad hL x a1 _) (cwV 1 hts (gd_V tw_155 tw_157 tw_0 tw_24 tw_158) rfl rfl rfl (by decide +kernel) ⟨Nat.le_of_ble_eq_true rfl, Nat.le_of_ble_eq_true rfl⟩) (wp_V hK hN hP hJ (0) (by omega) rfl rfl) rfl rfl hl.1 rfl (lv_room (Nat.le_of_ble_eq_true rfl)) d_X_heat_15 ⟨Nat.zero_le _, Nat.zero_le _⟩) hS (fun H locs hP hS => ?_)
    rcases x_la_cases hL a1 with q_2 | ⟨i_3, hi_3, hni_3, q_2⟩
    · rw [q_2]
      refine W.eq (g2 := F0 m 18 ls [.null, .ref (ad 0)]) rfl ?_
      refine lv_iconst (v := 4) hx hb d_X_heat_18 (by decide) ?_
      refine lv_iload_n hx hb d_X_heat_19 rfl (lv_at hl 2 rfl) ?_
      refine lv_ldc2 (v := 1000000000000000) hx hb hown (hts _ tw_172) d_X_heat_20 ?_
      refine wc_i (va_runV (As := [.null, .int 4, .int a2, .long 1000000000000000]) (rest := []) ⟨hx, hb, hml, hown, hts⟩ (c_X_bringN l g ad hL x 4 a2 1000000000000000 _) (cwV 4 hts (gd_V tw_160 tw_162 tw_1 tw_24 tw_163) rfl rfl rfl (by decide +kernel) ⟨Nat.le_of_ble_eq_true rfl, Nat.le_of_ble_eq_true rfl⟩) (wp_V hK hN hP hJ (0) (by omega) rfl rfl) rfl rfl hl.1 rfl (lv_room (Nat.le_of_ble_eq_true rfl)) d_X_heat_23 ⟨Nat.zero_le _, Nat.zero_le _⟩) hS (fun H locs hP hS => ?_)
      exact W.zret hx hb hr rfl (fun t ht hW => ⟨⟨_, (), rfl, by (try simp only [x_heat, x_bringAt, if_neg c_1, q_2]); first | done | rfl, by dsimp only; rw [ht]; (try simp only [x_heat, x_bringAt, if_neg c_1, q_2]); exact hP⟩, hS.F ht⟩) hS.2.2 d_X_heat_26
    · rw [q_2]
      refine W.eq (g2 := F0 m 18 ls [.ref (ad (7 + 2 * i_3)), .ref (ad 0)]) rfl ?_
      refine lv_iconst (v := 4) hx hb d_X_heat_18 (by decide) ?_
      refine lv_iload_n hx hb d_X_heat_19 rfl (lv_at hl 2 rfl) ?_
      refine lv_ldc2 (v := 1000000000000000) hx hb hown (hts _ tw_172) d_X_heat_20 ?_
      refine wc_i (va_runV (As := [.ref (ad (7 + 2 * i_3)), .int 4, .int a2, .long 1000000000000000]) (rest := []) ⟨hx, hb, hml, hown, hts⟩ (c_X_bring l g ad hL x hi_3 4 (by omega) a2 1000000000000000 _) (cwV 4 hts (gd_V tw_160 tw_162 tw_1 tw_24 tw_163) rfl rfl rfl (by decide +kernel) ⟨Nat.le_of_ble_eq_true rfl, Nat.le_of_ble_eq_true rfl⟩) (wp_V hK hN hP hJ (0) (by omega) rfl rfl) rfl rfl hl.1 rfl (lv_room (Nat.le_of_ble_eq_true rfl)) d_X_heat_23 ⟨Nat.zero_le _, Nat.zero_le _⟩) hS (fun H locs hP hS => ?_)
      obtain ⟨x_4, ex_4⟩ : ∃ z9, z9 = (x_bring x i_3 4 a2 1000000000000000).2 := ⟨_, rfl⟩
      rw [← ex_4] at hP
      subst ex_4
      exact W.zret hx hb hr (nb_01 (x_bring_01 _ _ _ _ _)) (fun t ht hW => ⟨⟨_, (), rfl, by (try simp only [x_heat, x_bringAt, if_neg c_1, q_2]); first | done | rfl, by dsimp only; rw [ht]; (try simp only [x_heat, x_bringAt, if_neg c_1, q_2]); exact hP⟩, hS.F ht⟩) hS.2.2 d_X_heat_26
  · skip
    refine lv_iconst (v := 0) hx hb d_X_heat_10 (by decide) ?_
    exact W.zret hx hb hr rfl (fun t ht hW => ⟨⟨_, (), rfl, by (try simp only [x_heat, x_bringAt, if_pos c_1]); first | done | rfl, by dsimp only; rw [ht]; (try simp only [x_heat, x_bringAt, if_pos c_1]); exact hP⟩, hS.F ht⟩) hS.2.2 d_X_heat_11
set_option maxHeartbeats 4000000 in
set_option maxRecDepth 100000 in
theorem c_X_rate (l : Launch) (g : wG) (ad : Nat → Nat) {L : Nat} (hL : 1 ≤ L ∧ L ≤ 6) (x : xS) (hrow : x_rows x) (a1 a2 a3 : Int32) : CtI l y_X_rate ws_X_rate ({ frames := 2, cells := 0, slots := 0, locals := 42 }) g (16 + 2 * L) ad (xE g ad L x) (xE g ad L (x_rate x a1 a2 a3).2) [.ref (ad 0), .int a1, .int a2, .int a3] (x_rate x a1 a2 a3).1 := by
  intro sz
  refine Met.ofW (cc := b_X_rate) (maxL := 4) (ret := (some .boolean)) (by decide +kernel) rfl ?_
  intro p e s m args below meth c s₁ B hml hv
  obtain ⟨rfl, hsz, hP, hK, hN, hJ⟩ := hv
  have hx := B.exec
  have hb := B.bytes
  have hr := B.returns
  have hts0 := atoms_spec (ws := ws_X_rate) B.pre
  have hts : ∀ w ∈ tb, w.before _ s = true := fun w h => hts0 w (List.mem_cons_of_mem _ h)
  have hown : s.vm.findClass "HeapSteps" = some m.cls := findClass_of_methodNamed B.named
  have hlocks := B.notSynchronized
  subst hsz
  have hS : va_S (wA (16 + 2 * L) ad s.heap.size) s.heap s.heap [] := va_S.rf
  have hl := lv_entry ([.ref (ad 0), .int a1, .int a2, .int a3]) (n := 4) (Nat.le_of_ble_eq_true rfl)
  rw [lg_entry_eq]
  generalize (lg_sl ([.ref (ad 0), .int a1, .int a2, .int a3]) ++ List.replicate (4 - (lg_sl ([.ref (ad 0), .int a1, .int a2, .int a3])).length) Slot.unset).toArray = ls at hl ⊢
  have hl : lv_has ls 4 [(0, .ref (ad 0)), (1, .int a1), (2, .int a2), (3, .int a3)] := hl
  refine lv_iload_n hx hb d_X_rate_0 rfl (lv_at hl 1 rfl) ?_
  refine wc_i (va_runS (As := [.int a1]) (rest := []) ⟨hx, hb, hml, hown, hts⟩ (c_X_isPart l g _ ad _ a1 _) (cwS 1 hts (gd_S tw_151 tw_152 tw_24 tw_153) rfl rfl rfl (by decide +kernel) ⟨Nat.le_of_ble_eq_true rfl, Nat.le_of_ble_eq_true rfl⟩) (wp_S hK hN hP hJ) rfl rfl hl.1 rfl (lv_room (Nat.le_of_ble_eq_true rfl)) d_X_rate_1 ⟨Nat.zero_le _, Nat.zero_le _⟩) hS (fun H locs hP hS => ?_)
  refine lv_if_eq (tgt := 27) hx hb d_X_rate_4 (by decide) (fun c_1 => ?_) (fun c_1 => ?_)
  · skip
    refine lv_iconst (v := 0) hx hb d_X_rate_27 (by decide) ?_
    exact W.zret hx hb hr rfl (fun t ht hW => ⟨⟨_, (), rfl, by (try simp only [x_rate, if_pos c_1]); first | done | rfl, by dsimp only; rw [ht]; (try simp only [x_rate, if_pos c_1]); exact hP⟩, hS.F ht⟩) hS.2.2 d_X_rate_28
  · skip
    refine lv_iload_n hx hb d_X_rate_7 rfl (lv_at hl 2 rfl) ?_
    refine lv_iconst (v := 0) hx hb d_X_rate_8 (by decide) ?_
    refine lv_ldc (v := 1000000) hx hb hown (hts _ tw_154) d_X_rate_9 ?_
    refine wc_i (va_runS (As := [.int a2, .int 0, .int 1000000]) (rest := []) ⟨hx, hb, hml, hown, hts⟩ (c_X_within l g _ ad _ a2 0 1000000 _) (cwS 3 hts (gd_S tw_67 tw_68 tw_24 tw_69) rfl rfl rfl (by decide +kernel) ⟨Nat.le_of_ble_eq_true rfl, Nat.le_of_ble_eq_true rfl⟩) (wp_S hK hN hP hJ) rfl rfl hl.1 rfl (lv_room (Nat.le_of_ble_eq_true rfl)) d_X_rate_11 ⟨Nat.zero_le _, Nat.zero_le _⟩) hS (fun H locs hP hS => ?_)
    refine lv_if_eq (tgt := 27) hx hb d_X_rate_14 (by decide) (fun c_2 => ?_) (fun c_2 => ?_)
    · skip
      refine lv_iconst (v := 0) hx hb d_X_rate_27 (by decide) ?_
      exact W.zret hx hb hr rfl (fun t ht hW => ⟨⟨_, (), rfl, by (try simp only [x_rate, if_neg c_1, if_pos c_2]); first | done | rfl, by dsimp only; rw [ht]; (try simp only [x_rate, if_neg c_1, if_pos c_2]); exact hP⟩, hS.F ht⟩) hS.2.2 d_X_rate_28
    · skip
      refine lv_iload_n hx hb d_X_rate_17 rfl (lv_at hl 3 rfl) ?_
      refine lv_iconst (v := 0) hx hb d_X_rate_18 (by decide) ?_
      refine lv_ldc (v := 100000) hx hb hown (hts _ tw_177) d_X_rate_19 ?_
      refine wc_i (va_runS (As := [.int a3, .int 0, .int 100000]) (rest := []) ⟨hx, hb, hml, hown, hts⟩ (c_X_within l g _ ad _ a3 0 100000 _) (cwS 3 hts (gd_S tw_67 tw_68 tw_24 tw_69) rfl rfl rfl (by decide +kernel) ⟨Nat.le_of_ble_eq_true rfl, Nat.le_of_ble_eq_true rfl⟩) (wp_S hK hN hP hJ) rfl rfl hl.1 rfl (lv_room (Nat.le_of_ble_eq_true rfl)) d_X_rate_21 ⟨Nat.zero_le _, Nat.zero_le _⟩) hS (fun H locs hP hS => ?_)
      refine lv_if_ne (tgt := 29) hx hb d_X_rate_24 (by decide) (fun c_3 => ?_) (fun c_3 => ?_)
      · skip
        obtain ⟨k, hk, rfl⟩ := x_within_nat (n := 2) (by decide) c_1
        refine lv_aload_n hx hb d_X_rate_29 rfl (lv_at hl 0 rfl) ?_
        refine wr_get hx hb hts in_X hown hK hP (0) (by omega) rfl rfl 1 (by decide) (hts _ tw_117) rfl d_X_rate_30 ?_
        refine lv_iload_n hx hb d_X_rate_33 rfl (lv_at hl 1 rfl) ?_
        refine wr_aldq hx hb hK hP (1) 3 (by omega) rfl rfl k rfl (by omega) (by omega) (v := ad (7 + 2 * L + 3 * k)) (if_pos (by omega)) d_X_rate_34 ?_
        refine lv_iload_n hx hb d_X_rate_35 rfl (lv_at hl 2 rfl) ?_
        refine lv_iload_n hx hb d_X_rate_36 rfl (lv_at hl 3 rfl) ?_
        refine wc_i (va_runV (As := [.int a2, .int a3]) (rest := []) ⟨hx, hb, hml, hown, hts⟩ (c_K_addRow l g ad hL x k (by omega) (hrow k (by omega)) a2 a3 _) (cwV 2 hts (gd_V tw_178 tw_179 tw_180 tw_27 tw_181) rfl rfl rfl (by decide +kernel) ⟨Nat.le_of_ble_eq_true rfl, Nat.le_of_ble_eq_true rfl⟩) (wp_V hK hN hP hJ (7 + 2 * L + 3 * k) (by omega) (xE_kind g ad L x k) rfl) rfl rfl hl.1 rfl (lv_room (Nat.le_of_ble_eq_true rfl)) d_X_rate_37 ⟨Nat.zero_le _, Nat.zero_le _⟩) hS (fun H locs hP hS => ?_)
        obtain ⟨x_4, ex_4⟩ : ∃ z9, z9 = (x_addRow x k a2 a3).2 := ⟨_, rfl⟩
        rw [← ex_4] at hP
        subst ex_4
        exact W.zret hx hb hr (nb_01 (x_addRow_01 _ _ _ _)) (fun t ht hW => ⟨⟨_, (), rfl, by (try simp only [x_rate, if_neg c_1, if_neg c_2, if_neg c_3, nI_clamp (show k < 2 ^ 31 by omega)]); first | done | rfl, by dsimp only; rw [ht]; (try simp only [x_rate, if_neg c_1, if_neg c_2, if_neg c_3, nI_clamp (show k < 2 ^ 31 by omega)]); exact hP⟩, hS.F ht⟩) hS.2.2 d_X_rate_40
      · skip
        refine lv_iconst (v := 0) hx hb d_X_rate_27 (by decide) ?_
        exact W.zret hx hb hr rfl (fun t ht hW => ⟨⟨_, (), rfl, by (try simp only [x_rate, if_neg c_1, if_neg c_2, if_pos c_3]); first | done | rfl, by dsimp only; rw [ht]; (try simp only [x_rate, if_neg c_1, if_neg c_2, if_pos c_3]); exact hP⟩, hS.F ht⟩) hS.2.2 d_X_rate_28
set_option maxHeartbeats 4000000 in
set_option maxRecDepth 100000 in
theorem c_X_yields (l : Launch) (g : wG) (ad : Nat → Nat) {L : Nat} (hL : 1 ≤ L ∧ L ≤ 6) (x : xS) (a1 a2 a3 : Int32) : CtI l y_X_yields ws_X_yields ({ frames := 2, cells := 0, slots := 0, locals := 42 }) g (16 + 2 * L) ad (xE g ad L x) (xE g ad L (x_yields x a1 a2 a3).2) [.ref (ad 0), .int a1, .int a2, .int a3] (x_yields x a1 a2 a3).1 := by
  intro sz
  refine Met.ofW (cc := b_X_yields) (maxL := 4) (ret := (some .boolean)) (by decide +kernel) rfl ?_
  intro p e s m args below meth c s₁ B hml hv
  obtain ⟨rfl, hsz, hP, hK, hN, hJ⟩ := hv
  have hx := B.exec
  have hb := B.bytes
  have hr := B.returns
  have hts0 := atoms_spec (ws := ws_X_yields) B.pre
  have hts : ∀ w ∈ tb, w.before _ s = true := fun w h => hts0 w (List.mem_cons_of_mem _ h)
  have hown : s.vm.findClass "HeapSteps" = some m.cls := findClass_of_methodNamed B.named
  have hlocks := B.notSynchronized
  subst hsz
  have hS : va_S (wA (16 + 2 * L) ad s.heap.size) s.heap s.heap [] := va_S.rf
  have hl := lv_entry ([.ref (ad 0), .int a1, .int a2, .int a3]) (n := 4) (Nat.le_of_ble_eq_true rfl)
  rw [lg_entry_eq]
  generalize (lg_sl ([.ref (ad 0), .int a1, .int a2, .int a3]) ++ List.replicate (4 - (lg_sl ([.ref (ad 0), .int a1, .int a2, .int a3])).length) Slot.unset).toArray = ls at hl ⊢
  have hl : lv_has ls 4 [(0, .ref (ad 0)), (1, .int a1), (2, .int a2), (3, .int a3)] := hl
  refine lv_iload_n hx hb d_X_yields_0 rfl (lv_at hl 1 rfl) ?_
  refine wc_i (va_runS (As := [.int a1]) (rest := []) ⟨hx, hb, hml, hown, hts⟩ (c_X_isPart l g _ ad _ a1 _) (cwS 1 hts (gd_S tw_151 tw_152 tw_24 tw_153) rfl rfl rfl (by decide +kernel) ⟨Nat.le_of_ble_eq_true rfl, Nat.le_of_ble_eq_true rfl⟩) (wp_S hK hN hP hJ) rfl rfl hl.1 rfl (lv_room (Nat.le_of_ble_eq_true rfl)) d_X_yields_1 ⟨Nat.zero_le _, Nat.zero_le _⟩) hS (fun H locs hP hS => ?_)
  refine lv_if_eq (tgt := 28) hx hb d_X_yields_4 (by decide) (fun c_1 => ?_) (fun c_1 => ?_)
  · skip
    refine lv_iconst (v := 0) hx hb d_X_yields_28 (by decide) ?_
    exact W.zret hx hb hr rfl (fun t ht hW => ⟨⟨_, (), rfl, by (try simp only [x_yields, if_pos c_1]); first | done | rfl, by dsimp only; rw [ht]; (try simp only [x_yields, if_pos c_1]); exact hP⟩, hS.F ht⟩) hS.2.2 d_X_yields_29
  · skip
    refine lv_iload_n hx hb d_X_yields_7 rfl (lv_at hl 2 rfl) ?_
    refine lv_iconst (v := 0) hx hb d_X_yields_8 (by decide) ?_
    refine lv_ldc (v := 100000) hx hb hown (hts _ tw_177) d_X_yields_9 ?_
    refine wc_i (va_runS (As := [.int a2, .int 0, .int 100000]) (rest := []) ⟨hx, hb, hml, hown, hts⟩ (c_X_within l g _ ad _ a2 0 100000 _) (cwS 3 hts (gd_S tw_67 tw_68 tw_24 tw_69) rfl rfl rfl (by decide +kernel) ⟨Nat.le_of_ble_eq_true rfl, Nat.le_of_ble_eq_true rfl⟩) (wp_S hK hN hP hJ) rfl rfl hl.1 rfl (lv_room (Nat.le_of_ble_eq_true rfl)) d_X_yields_11 ⟨Nat.zero_le _, Nat.zero_le _⟩) hS (fun H locs hP hS => ?_)
    refine lv_if_eq (tgt := 28) hx hb d_X_yields_14 (by decide) (fun c_2 => ?_) (fun c_2 => ?_)
    · skip
      refine lv_iconst (v := 0) hx hb d_X_yields_28 (by decide) ?_
      exact W.zret hx hb hr rfl (fun t ht hW => ⟨⟨_, (), rfl, by (try simp only [x_yields, if_neg c_1, if_pos c_2]); first | done | rfl, by dsimp only; rw [ht]; (try simp only [x_yields, if_neg c_1, if_pos c_2]); exact hP⟩, hS.F ht⟩) hS.2.2 d_X_yields_29
    · skip
      refine lv_iload_n hx hb d_X_yields_17 rfl (lv_at hl 3 rfl) ?_
      refine lv_iconst (v := 0) hx hb d_X_yields_18 (by decide) ?_
      refine lv_sipush (v := 1000) hx hb d_X_yields_19 (by decide) ?_
      refine wc_i (va_runS (As := [.int a3, .int 0, .int 1000]) (rest := []) ⟨hx, hb, hml, hown, hts⟩ (c_X_within l g _ ad _ a3 0 1000 _) (cwS 3 hts (gd_S tw_67 tw_68 tw_24 tw_69) rfl rfl rfl (by decide +kernel) ⟨Nat.le_of_ble_eq_true rfl, Nat.le_of_ble_eq_true rfl⟩) (wp_S hK hN hP hJ) rfl rfl hl.1 rfl (lv_room (Nat.le_of_ble_eq_true rfl)) d_X_yields_22 ⟨Nat.zero_le _, Nat.zero_le _⟩) hS (fun H locs hP hS => ?_)
      refine lv_if_ne (tgt := 30) hx hb d_X_yields_25 (by decide) (fun c_3 => ?_) (fun c_3 => ?_)
      · skip
        obtain ⟨k, hk, rfl⟩ := x_within_nat (n := 2) (by decide) c_1
        refine lv_aload_n hx hb d_X_yields_30 rfl (lv_at hl 0 rfl) ?_
        refine wr_get hx hb hts in_X hown hK hP (0) (by omega) rfl rfl 1 (by decide) (hts _ tw_117) rfl d_X_yields_31 ?_
        refine lv_iload_n hx hb d_X_yields_34 rfl (lv_at hl 1 rfl) ?_
        refine wr_aldq hx hb hK hP (1) 3 (by omega) rfl rfl k rfl (by omega) (by omega) (v := ad (7 + 2 * L + 3 * k)) (if_pos (by omega)) d_X_yields_35 ?_
        refine lv_iload_n hx hb d_X_yields_36 rfl (lv_at hl 2 rfl) ?_
        obtain ⟨x_4, ex_4⟩ : ∃ z9, z9 = xY' x k 1 a2 := ⟨_, rfl⟩
        refine wr_put (E' := xE g ad L x_4) hx hb hts in_K ty_K ty_K_ok n_K hown hK hP hJ hS (7 + 2 * L + 3 * k) (by omega) (xE_kind g ad L x k) rfl 3 (by decide) (hts _ tw_101) rfl rfl rfl (Nat.le_of_ble_eq_true rfl) (by rw [ex_4]; exact xU_Y g ad L x k 1 (by decide) a2) d_X_yields_37 (fun H locs hP hS => ?_)
        refine lv_aload_n hx hb d_X_yields_40 rfl (lv_at hl 0 rfl) ?_
        refine wr_get hx hb hts in_X hown hK hP (0) (by omega) rfl rfl 1 (by decide) (hts _ tw_117) rfl d_X_yields_41 ?_
        refine lv_iload_n hx hb d_X_yields_44 rfl (lv_at hl 1 rfl) ?_
        refine wr_aldq hx hb hK hP (1) 3 (by omega) rfl rfl k rfl (by omega) (by omega) (v := ad (7 + 2 * L + 3 * k)) (if_pos (by omega)) d_X_yields_45 ?_
        refine lv_iload_n hx hb d_X_yields_46 rfl (lv_at hl 3 rfl) ?_
        obtain ⟨x_5, ex_5⟩ : ∃ z9, z9 = xY' x_4 k 2 a3 := ⟨_, rfl⟩
        refine wr_put (E' := xE g ad L x_5) hx hb hts in_K ty_K ty_K_ok n_K hown hK hP hJ hS (7 + 2 * L + 3 * k) (by omega) (xE_kind g ad L x_4 k) rfl 4 (by decide) (hts _ tw_103) rfl rfl rfl (Nat.le_of_ble_eq_true rfl) (by rw [ex_5]; exact xU_Y g ad L x_4 k 2 (by decide) a3) d_X_yields_47 (fun H locs hP hS => ?_)
        refine lv_iconst (v := 1) hx hb d_X_yields_50 (by decide) ?_
        subst ex_4
        subst ex_5
        exact W.zret hx hb hr rfl (fun t ht hW => ⟨⟨_, (), rfl, by (try simp only [x_yields, if_neg c_1, if_neg c_2, if_neg c_3, nI_clamp (show k < 2 ^ 31 by omega)]); first | done | rfl, by dsimp only; rw [ht]; (try simp only [x_yields, if_neg c_1, if_neg c_2, if_neg c_3, nI_clamp (show k < 2 ^ 31 by omega)]); exact hP⟩, hS.F ht⟩) hS.2.2 d_X_yields_51
      · skip
        refine lv_iconst (v := 0) hx hb d_X_yields_28 (by decide) ?_
        exact W.zret hx hb hr rfl (fun t ht hW => ⟨⟨_, (), rfl, by (try simp only [x_yields, if_neg c_1, if_neg c_2, if_pos c_3]); first | done | rfl, by dsimp only; rw [ht]; (try simp only [x_yields, if_neg c_1, if_neg c_2, if_pos c_3]); exact hP⟩, hS.F ht⟩) hS.2.2 d_X_yields_29
set_option maxHeartbeats 4000000 in
set_option maxRecDepth 100000 in
theorem c_X_bounds (l : Launch) (g : wG) (ad : Nat → Nat) {L : Nat} (hL : 1 ≤ L ∧ L ≤ 6) (x : xS) (a1 a2 a3 : Int32) : CtI l y_X_bounds ws_X_bounds ({ frames := 2, cells := 0, slots := 0, locals := 43 }) g (16 + 2 * L) ad (xE g ad L x) (xE g ad L (x_bounds L x a1 a2 a3).2) [.ref (ad 0), .int a1, .int a2, .int a3] (x_bounds L x a1 a2 a3).1 := by
  intro sz
  refine Met.ofW (cc := b_X_bounds) (maxL := 5) (ret := (some .boolean)) (by decide +kernel) rfl ?_
  intro p e s m args below meth c s₁ B hml hv
  obtain ⟨rfl, hsz, hP, hK, hN, hJ⟩ := hv
  have hx := B.exec
  have hb := B.bytes
  have hr := B.returns
  have hts0 := atoms_spec (ws := ws_X_bounds) B.pre
  have hts : ∀ w ∈ tb, w.before _ s = true := fun w h => hts0 w (List.mem_cons_of_mem _ h)
  have hown : s.vm.findClass "HeapSteps" = some m.cls := findClass_of_methodNamed B.named
  have hlocks := B.notSynchronized
  subst hsz
  have hS : va_S (wA (16 + 2 * L) ad s.heap.size) s.heap s.heap [] := va_S.rf
  have hl := lv_entry ([.ref (ad 0), .int a1, .int a2, .int a3]) (n := 5) (Nat.le_of_ble_eq_true rfl)
  rw [lg_entry_eq]
  generalize (lg_sl ([.ref (ad 0), .int a1, .int a2, .int a3]) ++ List.replicate (5 - (lg_sl ([.ref (ad 0), .int a1, .int a2, .int a3])).length) Slot.unset).toArray = ls at hl ⊢
  have hl : lv_has ls 5 [(0, .ref (ad 0)), (1, .int a1), (2, .int a2), (3, .int a3)] := hl
  refine lv_aload_n hx hb d_X_bounds_0 rfl (lv_at hl 0 rfl) ?_
  refine lv_iload_n hx hb d_X_bounds_1 rfl (lv_at hl 1 rfl) ?_
  refine wc_q (va_runV (As := [.int a1]) (rest := []) ⟨hx, hb, hml, hown, hts⟩ (c_X_layerAt l g ad hL x a1 _) (cwV 1 hts (gd_V tw_155 tw_157 tw_0 tw_24 tw_158) rfl rfl rfl (by decide +kernel) ⟨Nat.le_of_ble_eq_true rfl, Nat.le_of_ble_eq_true rfl⟩) (wp_V hK hN hP hJ (0) (by omega) rfl rfl) rfl rfl hl.1 rfl (lv_room (Nat.le_of_ble_eq_true rfl)) d_X_bounds_2 ⟨Nat.zero_le _, Nat.zero_le _⟩) hS (fun H locs hP hS => ?_)
  rcases x_la_cases hL a1 with q_1 | ⟨i_2, hi_2, hni_2, q_1⟩
  · rw [q_1]
    refine W.eq (g2 := F0 m 5 ls [.null]) rfl ?_
    refine lv_astoreN (lv' := [(4, .null), (0, .ref (ad 0)), (1, .int a1), (2, .int a2), (3, .int a3)]) hx hb d_X_bounds_5 hl (by decide) rfl (fun ls hl => ?_)
    refine lv_aloadN hx hb d_X_bounds_7 (lv_at hl 0 rfl) ?_
    refine lv_ifnullN (tgt := 32) hx hb d_X_bounds_9 (by decide) ?_
    refine lv_iconst (v := 0) hx hb d_X_bounds_32 (by decide) ?_
    exact W.zret hx hb hr rfl (fun t ht hW => ⟨⟨_, (), rfl, by (try simp only [x_bounds, q_1]); first | done | rfl, by dsimp only; rw [ht]; (try simp only [x_bounds, q_1]); exact hP⟩, hS.F ht⟩) hS.2.2 d_X_bounds_33
  · rw [q_1]
    refine W.eq (g2 := F0 m 5 ls [.ref (ad (7 + 2 * i_2))]) rfl ?_
    refine lv_astore (lv' := [(4, .ref (ad (7 + 2 * i_2))), (0, .ref (ad 0)), (1, .int a1), (2, .int a2), (3, .int a3)]) hx hb d_X_bounds_5 hl (by decide) rfl (fun ls hl => ?_)
    refine lv_aload hx hb d_X_bounds_7 (lv_at hl 0 rfl) ?_
    refine lv_ifnull hx hb d_X_bounds_9 ?_
    refine lv_iload_n hx hb d_X_bounds_12 rfl (lv_at hl 3 rfl) ?_
    refine lv_iconst (v := 0) hx hb d_X_bounds_13 (by decide) ?_
    refine lv_ldc (v := 1000000000) hx hb hown (hts _ tw_66) d_X_bounds_14 ?_
    refine wc_i (va_runS (As := [.int a2, .int 0, .int 1000000000]) (rest := []) ⟨hx, hb, hml, hown, hts⟩ (c_X_within l g _ ad _ a2 0 1000000000 _) (cwS 3 hts (gd_S tw_67 tw_68 tw_24 tw_69) rfl rfl rfl (by decide +kernel) ⟨Nat.le_of_ble_eq_true rfl, Nat.le_of_ble_eq_true rfl⟩) (wp_S hK hN hP hJ) rfl rfl hl.1 rfl (lv_room (Nat.le_of_ble_eq_true rfl)) d_X_bounds_16 ⟨Nat.zero_le _, Nat.zero_le _⟩) hS (fun H locs hP hS => ?_)
    refine lv_if_eq (tgt := 32) hx hb d_X_bounds_19 (by decide) (fun c_3 => ?_) (fun c_3 => ?_)
    · skip
      refine lv_iconst (v := 0) hx hb d_X_bounds_32 (by decide) ?_
      exact W.zret hx hb hr rfl (fun t ht hW => ⟨⟨_, (), rfl, by (try simp only [x_bounds, if_pos c_3, q_1]); first | done | rfl, by dsimp only; rw [ht]; (try simp only [x_bounds, if_pos c_3, q_1]); exact hP⟩, hS.F ht⟩) hS.2.2 d_X_bounds_33
    · skip
      refine lv_iload_n hx hb d_X_bounds_22 rfl (lv_at hl 4 rfl) ?_
      refine lv_iconst (v := 0) hx hb d_X_bounds_23 (by decide) ?_
      refine lv_ldc (v := 1000000000) hx hb hown (hts _ tw_66) d_X_bounds_24 ?_
      refine wc_i (va_runS (As := [.int a3, .int 0, .int 1000000000]) (rest := []) ⟨hx, hb, hml, hown, hts⟩ (c_X_within l g _ ad _ a3 0 1000000000 _) (cwS 3 hts (gd_S tw_67 tw_68 tw_24 tw_69) rfl rfl rfl (by decide +kernel) ⟨Nat.le_of_ble_eq_true rfl, Nat.le_of_ble_eq_true rfl⟩) (wp_S hK hN hP hJ) rfl rfl hl.1 rfl (lv_room (Nat.le_of_ble_eq_true rfl)) d_X_bounds_26 ⟨Nat.zero_le _, Nat.zero_le _⟩) hS (fun H locs hP hS => ?_)
      refine lv_if_ne (tgt := 34) hx hb d_X_bounds_29 (by decide) (fun c_4 => ?_) (fun c_4 => ?_)
      · skip
        refine lv_aload hx hb d_X_bounds_34 (lv_at hl 0 rfl) ?_
        refine lv_iload_n hx hb d_X_bounds_36 rfl (lv_at hl 3 rfl) ?_
        obtain ⟨x_5, ex_5⟩ : ∃ z9, z9 = xB' x i_2 0 a2 := ⟨_, rfl⟩
        refine wr_put (E' := xE g ad L x_5) hx hb hts in_Y ty_Y ty_Y_ok n_Y hown hK hP hJ hS (7 + 2 * i_2) (by omega) (xE_lay g ad L x hi_2) rfl 1 (by decide) (hts _ tw_81) rfl rfl rfl (Nat.le_of_ble_eq_true rfl) (by rw [ex_5]; exact xU_B g ad L x hi_2 0 (by decide) a2) d_X_bounds_37 (fun H locs hP hS => ?_)
        refine lv_aload hx hb d_X_bounds_40 (lv_at hl 0 rfl) ?_
        refine lv_iload_n hx hb d_X_bounds_42 rfl (lv_at hl 4 rfl) ?_
        obtain ⟨x_6, ex_6⟩ : ∃ z9, z9 = xB' x_5 i_2 1 a3 := ⟨_, rfl⟩
        refine wr_put (E' := xE g ad L x_6) hx hb hts in_Y ty_Y ty_Y_ok n_Y hown hK hP hJ hS (7 + 2 * i_2) (by omega) (xE_lay g ad L x_5 hi_2) rfl 2 (by decide) (hts _ tw_83) rfl rfl rfl (Nat.le_of_ble_eq_true rfl) (by rw [ex_6]; exact xU_B g ad L x_5 hi_2 1 (by decide) a3) d_X_bounds_43 (fun H locs hP hS => ?_)
        refine lv_iconst (v := 1) hx hb d_X_bounds_46 (by decide) ?_
        subst ex_5
        subst ex_6
        exact W.zret hx hb hr rfl (fun t ht hW => ⟨⟨_, (), rfl, by (try simp only [x_bounds, if_neg c_3, if_neg c_4, q_1]); first | done | rfl, by dsimp only; rw [ht]; (try simp only [x_bounds, if_neg c_3, if_neg c_4, q_1]); exact hP⟩, hS.F ht⟩) hS.2.2 d_X_bounds_47
      · skip
        refine lv_iconst (v := 0) hx hb d_X_bounds_32 (by decide) ?_
        exact W.zret hx hb hr rfl (fun t ht hW => ⟨⟨_, (), rfl, by (try simp only [x_bounds, if_neg c_3, if_pos c_4, q_1]); first | done | rfl, by dsimp only; rw [ht]; (try simp only [x_bounds, if_neg c_3, if_pos c_4, q_1]); exact hP⟩, hS.F ht⟩) hS.2.2 d_X_bounds_33
set_option maxHeartbeats 4000000 in
set_option maxRecDepth 100000 in
theorem c_X_rain (l : Launch) (g : wG) (ad : Nat → Nat) {L : Nat} (hL : 1 ≤ L ∧ L ≤ 6) (x : xS) (a1 : Int32) : CtI l y_X_rain ws_X_rain ({ frames := 1, cells := 0, slots := 0, locals := 22 }) g (16 + 2 * L) ad (xE g ad L x) (xE g ad L (x_rain x a1).2) [.ref (ad 0), .int a1] (x_rain x a1).1 := by
  intro sz
  refine Met.ofW (cc := b_X_rain) (maxL := 2) (ret := (some .boolean)) (by decide +kernel) rfl ?_
  intro p e s m args below meth c s₁ B hml hv
  obtain ⟨rfl, hsz, hP, hK, hN, hJ⟩ := hv
  have hx := B.exec
  have hb := B.bytes
  have hr := B.returns
  have hts0 := atoms_spec (ws := ws_X_rain) B.pre
  have hts : ∀ w ∈ tb, w.before _ s = true := fun w h => hts0 w (List.mem_cons_of_mem _ h)
  have hown : s.vm.findClass "HeapSteps" = some m.cls := findClass_of_methodNamed B.named
  have hlocks := B.notSynchronized
  subst hsz
  have hS : va_S (wA (16 + 2 * L) ad s.heap.size) s.heap s.heap [] := va_S.rf
  have hl := lv_entry ([.ref (ad 0), .int a1]) (n := 2) (Nat.le_of_ble_eq_true rfl)
  rw [lg_entry_eq]
  generalize (lg_sl ([.ref (ad 0), .int a1]) ++ List.replicate (2 - (lg_sl ([.ref (ad 0), .int a1])).length) Slot.unset).toArray = ls at hl ⊢
  have hl : lv_has ls 2 [(0, .ref (ad 0)), (1, .int a1)] := hl
  refine lv_iload_n hx hb d_X_rain_0 rfl (lv_at hl 1 rfl) ?_
  refine lv_iconst (v := 0) hx hb d_X_rain_1 (by decide) ?_
  refine lv_ldc (v := 100000) hx hb hown (hts _ tw_177) d_X_rain_2 ?_
  refine wc_i (va_runS (As := [.int a1, .int 0, .int 100000]) (rest := []) ⟨hx, hb, hml, hown, hts⟩ (c_X_within l g _ ad _ a1 0 100000 _) (cwS 3 hts (gd_S tw_67 tw_68 tw_24 tw_69) rfl rfl rfl (by decide +kernel) ⟨Nat.le_of_ble_eq_true rfl, Nat.le_of_ble_eq_true rfl⟩) (wp_S hK hN hP hJ) rfl rfl hl.1 rfl (lv_room (Nat.le_of_ble_eq_true rfl)) d_X_rain_4 ⟨Nat.zero_le _, Nat.zero_le _⟩) hS (fun H locs hP hS => ?_)
  refine lv_if_ne (tgt := 12) hx hb d_X_rain_7 (by decide) (fun c_1 => ?_) (fun c_1 => ?_)
  · skip
    refine lv_aload_n hx hb d_X_rain_12 rfl (lv_at hl 0 rfl) ?_
    refine lv_iload_n hx hb d_X_rain_13 rfl (lv_at hl 1 rfl) ?_
    obtain ⟨x_2, ex_2⟩ : ∃ z9, z9 = xI' x 0 a1 := ⟨_, rfl⟩
    refine wr_put (E' := xE g ad L x_2) hx hb hts in_X ty_X ty_X_ok n_X hown hK hP hJ hS (0) (by omega) rfl rfl 6 (by decide) (hts _ tw_122) rfl rfl rfl (Nat.le_of_ble_eq_true rfl) (by rw [ex_2]; exact xU_I g ad L x 0 (by decide) a1) d_X_rain_14 (fun H locs hP hS => ?_)
    refine lv_iconst (v := 1) hx hb d_X_rain_17 (by decide) ?_
    subst ex_2
    exact W.zret hx hb hr rfl (fun t ht hW => ⟨⟨_, (), rfl, by (try simp only [x_rain, if_neg c_1]); first | done | rfl, by dsimp only; rw [ht]; (try simp only [x_rain, if_neg c_1]); exact hP⟩, hS.F ht⟩) hS.2.2 d_X_rain_18
  · skip
    refine lv_iconst (v := 0) hx hb d_X_rain_10 (by decide) ?_
    exact W.zret hx hb hr rfl (fun t ht hW => ⟨⟨_, (), rfl, by (try simp only [x_rain, if_pos c_1]); first | done | rfl, by dsimp only; rw [ht]; (try simp only [x_rain, if_pos c_1]); exact hP⟩, hS.F ht⟩) hS.2.2 d_X_rain_11
set_option maxHeartbeats 4000000 in
set_option maxRecDepth 100000 in
theorem c_X_loss (l : Launch) (g : wG) (ad : Nat → Nat) {L : Nat} (hL : 1 ≤ L ∧ L ≤ 6) (x : xS) (a1 : Int32) : CtI l y_X_loss ws_X_loss ({ frames := 1, cells := 0, slots := 0, locals := 22 }) g (16 + 2 * L) ad (xE g ad L x) (xE g ad L (x_loss x a1).2) [.ref (ad 0), .int a1] (x_loss x a1).1 := by
  intro sz
  refine Met.ofW (cc := b_X_loss) (maxL := 2) (ret := (some .boolean)) (by decide +kernel) rfl ?_
  intro p e s m args below meth c s₁ B hml hv
  obtain ⟨rfl, hsz, hP, hK, hN, hJ⟩ := hv
  have hx := B.exec
  have hb := B.bytes
  have hr := B.returns
  have hts0 := atoms_spec (ws := ws_X_loss) B.pre
  have hts : ∀ w ∈ tb, w.before _ s = true := fun w h => hts0 w (List.mem_cons_of_mem _ h)
  have hown : s.vm.findClass "HeapSteps" = some m.cls := findClass_of_methodNamed B.named
  have hlocks := B.notSynchronized
  subst hsz
  have hS : va_S (wA (16 + 2 * L) ad s.heap.size) s.heap s.heap [] := va_S.rf
  have hl := lv_entry ([.ref (ad 0), .int a1]) (n := 2) (Nat.le_of_ble_eq_true rfl)
  rw [lg_entry_eq]
  generalize (lg_sl ([.ref (ad 0), .int a1]) ++ List.replicate (2 - (lg_sl ([.ref (ad 0), .int a1])).length) Slot.unset).toArray = ls at hl ⊢
  have hl : lv_has ls 2 [(0, .ref (ad 0)), (1, .int a1)] := hl
  refine lv_iload_n hx hb d_X_loss_0 rfl (lv_at hl 1 rfl) ?_
  refine lv_iconst (v := 0) hx hb d_X_loss_1 (by decide) ?_
  refine lv_ldc (v := 1000000) hx hb hown (hts _ tw_154) d_X_loss_2 ?_
  refine wc_i (va_runS (As := [.int a1, .int 0, .int 1000000]) (rest := []) ⟨hx, hb, hml, hown, hts⟩ (c_X_within l g _ ad _ a1 0 1000000 _) (cwS 3 hts (gd_S tw_67 tw_68 tw_24 tw_69) rfl rfl rfl (by decide +kernel) ⟨Nat.le_of_ble_eq_true rfl, Nat.le_of_ble_eq_true rfl⟩) (wp_S hK hN hP hJ) rfl rfl hl.1 rfl (lv_room (Nat.le_of_ble_eq_true rfl)) d_X_loss_4 ⟨Nat.zero_le _, Nat.zero_le _⟩) hS (fun H locs hP hS => ?_)
  refine lv_if_ne (tgt := 12) hx hb d_X_loss_7 (by decide) (fun c_1 => ?_) (fun c_1 => ?_)
  · skip
    refine lv_aload_n hx hb d_X_loss_12 rfl (lv_at hl 0 rfl) ?_
    refine lv_iload_n hx hb d_X_loss_13 rfl (lv_at hl 1 rfl) ?_
    obtain ⟨x_2, ex_2⟩ : ∃ z9, z9 = xI' x 1 a1 := ⟨_, rfl⟩
    refine wr_put (E' := xE g ad L x_2) hx hb hts in_X ty_X ty_X_ok n_X hown hK hP hJ hS (0) (by omega) rfl rfl 7 (by decide) (hts _ tw_123) rfl rfl rfl (Nat.le_of_ble_eq_true rfl) (by rw [ex_2]; exact xU_I g ad L x 1 (by decide) a1) d_X_loss_14 (fun H locs hP hS => ?_)
    refine lv_iconst (v := 1) hx hb d_X_loss_17 (by decide) ?_
    subst ex_2
    exact W.zret hx hb hr rfl (fun t ht hW => ⟨⟨_, (), rfl, by (try simp only [x_loss, if_neg c_1]); first | done | rfl, by dsimp only; rw [ht]; (try simp only [x_loss, if_neg c_1]); exact hP⟩, hS.F ht⟩) hS.2.2 d_X_loss_18
  · skip
    refine lv_iconst (v := 0) hx hb d_X_loss_10 (by decide) ?_
    exact W.zret hx hb hr rfl (fun t ht hW => ⟨⟨_, (), rfl, by (try simp only [x_loss, if_pos c_1]); first | done | rfl, by dsimp only; rw [ht]; (try simp only [x_loss, if_pos c_1]); exact hP⟩, hS.F ht⟩) hS.2.2 d_X_loss_11
set_option maxHeartbeats 4000000 in
set_option maxRecDepth 100000 in
theorem c_X_limit (l : Launch) (g : wG) (ad : Nat → Nat) {L : Nat} (hL : 1 ≤ L ∧ L ≤ 6) (x : xS) (a1 : Int32) : CtI l y_X_limit ws_X_limit ({ frames := 1, cells := 0, slots := 0, locals := 22 }) g (16 + 2 * L) ad (xE g ad L x) (xE g ad L (x_limit x a1).2) [.ref (ad 0), .int a1] (x_limit x a1).1 := by
  intro sz
  refine Met.ofW (cc := b_X_limit) (maxL := 2) (ret := (some .boolean)) (by decide +kernel) rfl ?_
  intro p e s m args below meth c s₁ B hml hv
  obtain ⟨rfl, hsz, hP, hK, hN, hJ⟩ := hv
  have hx := B.exec
  have hb := B.bytes
  have hr := B.returns
  have hts0 := atoms_spec (ws := ws_X_limit) B.pre
  have hts : ∀ w ∈ tb, w.before _ s = true := fun w h => hts0 w (List.mem_cons_of_mem _ h)
  have hown : s.vm.findClass "HeapSteps" = some m.cls := findClass_of_methodNamed B.named
  have hlocks := B.notSynchronized
  subst hsz
  have hS : va_S (wA (16 + 2 * L) ad s.heap.size) s.heap s.heap [] := va_S.rf
  have hl := lv_entry ([.ref (ad 0), .int a1]) (n := 2) (Nat.le_of_ble_eq_true rfl)
  rw [lg_entry_eq]
  generalize (lg_sl ([.ref (ad 0), .int a1]) ++ List.replicate (2 - (lg_sl ([.ref (ad 0), .int a1])).length) Slot.unset).toArray = ls at hl ⊢
  have hl : lv_has ls 2 [(0, .ref (ad 0)), (1, .int a1)] := hl
  refine lv_iload_n hx hb d_X_limit_0 rfl (lv_at hl 1 rfl) ?_
  refine lv_iconst (v := 0) hx hb d_X_limit_1 (by decide) ?_
  refine lv_ldc (v := 1000000000) hx hb hown (hts _ tw_66) d_X_limit_2 ?_
  refine wc_i (va_runS (As := [.int a1, .int 0, .int 1000000000]) (rest := []) ⟨hx, hb, hml, hown, hts⟩ (c_X_within l g _ ad _ a1 0 1000000000 _) (cwS 3 hts (gd_S tw_67 tw_68 tw_24 tw_69) rfl rfl rfl (by decide +kernel) ⟨Nat.le_of_ble_eq_true rfl, Nat.le_of_ble_eq_true rfl⟩) (wp_S hK hN hP hJ) rfl rfl hl.1 rfl (lv_room (Nat.le_of_ble_eq_true rfl)) d_X_limit_4 ⟨Nat.zero_le _, Nat.zero_le _⟩) hS (fun H locs hP hS => ?_)
  refine lv_if_ne (tgt := 12) hx hb d_X_limit_7 (by decide) (fun c_1 => ?_) (fun c_1 => ?_)
  · skip
    refine lv_aload_n hx hb d_X_limit_12 rfl (lv_at hl 0 rfl) ?_
    refine lv_iload_n hx hb d_X_limit_13 rfl (lv_at hl 1 rfl) ?_
    obtain ⟨x_2, ex_2⟩ : ∃ z9, z9 = xI' x 2 a1 := ⟨_, rfl⟩
    refine wr_put (E' := xE g ad L x_2) hx hb hts in_X ty_X ty_X_ok n_X hown hK hP hJ hS (0) (by omega) rfl rfl 8 (by decide) (hts _ tw_124) rfl rfl rfl (Nat.le_of_ble_eq_true rfl) (by rw [ex_2]; exact xU_I g ad L x 2 (by decide) a1) d_X_limit_14 (fun H locs hP hS => ?_)
    refine lv_iconst (v := 1) hx hb d_X_limit_17 (by decide) ?_
    subst ex_2
    exact W.zret hx hb hr rfl (fun t ht hW => ⟨⟨_, (), rfl, by (try simp only [x_limit, if_neg c_1]); first | done | rfl, by dsimp only; rw [ht]; (try simp only [x_limit, if_neg c_1]); exact hP⟩, hS.F ht⟩) hS.2.2 d_X_limit_18
  · skip
    refine lv_iconst (v := 0) hx hb d_X_limit_10 (by decide) ?_
    exact W.zret hx hb hr rfl (fun t ht hW => ⟨⟨_, (), rfl, by (try simp only [x_limit, if_pos c_1]); first | done | rfl, by dsimp only; rw [ht]; (try simp only [x_limit, if_pos c_1]); exact hP⟩, hS.F ht⟩) hS.2.2 d_X_limit_11
set_option maxHeartbeats 4000000 in
set_option maxRecDepth 100000 in
theorem c_X_fan (l : Launch) (g : wG) (ad : Nat → Nat) {L : Nat} (hL : 1 ≤ L ∧ L ≤ 6) (x : xS) (a1 a2 a3 : Int32) : CtI l y_X_fan ws_X_fan ({ frames := 1, cells := 0, slots := 0, locals := 23 }) g (16 + 2 * L) ad (xE g ad L x) (xE g ad L (x_fan x a1 a2 a3).2) [.ref (ad 0), .int a1, .int a2, .int a3] (x_fan x a1 a2 a3).1 := by
  intro sz
  refine Met.ofW (cc := b_X_fan) (maxL := 4) (ret := (some .boolean)) (by decide +kernel) rfl ?_
  intro p e s m args below meth c s₁ B hml hv
  obtain ⟨rfl, hsz, hP, hK, hN, hJ⟩ := hv
  have hx := B.exec
  have hb := B.bytes
  have hr := B.returns
  have hts0 := atoms_spec (ws := ws_X_fan) B.pre
  have hts : ∀ w ∈ tb, w.before _ s = true := fun w h => hts0 w (List.mem_cons_of_mem _ h)
  have hown : s.vm.findClass "HeapSteps" = some m.cls := findClass_of_methodNamed B.named
  have hlocks := B.notSynchronized
  subst hsz
  have hS : va_S (wA (16 + 2 * L) ad s.heap.size) s.heap s.heap [] := va_S.rf
  have hl := lv_entry ([.ref (ad 0), .int a1, .int a2, .int a3]) (n := 4) (Nat.le_of_ble_eq_true rfl)
  rw [lg_entry_eq]
  generalize (lg_sl ([.ref (ad 0), .int a1, .int a2, .int a3]) ++ List.replicate (4 - (lg_sl ([.ref (ad 0), .int a1, .int a2, .int a3])).length) Slot.unset).toArray = ls at hl ⊢
  have hl : lv_has ls 4 [(0, .ref (ad 0)), (1, .int a1), (2, .int a2), (3, .int a3)] := hl
  refine lv_iload_n hx hb d_X_fan_0 rfl (lv_at hl 1 rfl) ?_
  refine lv_iconst (v := 0) hx hb d_X_fan_1 (by decide) ?_
  refine lv_ldc (v := 1000000) hx hb hown (hts _ tw_154) d_X_fan_2 ?_
  refine wc_i (va_runS (As := [.int a1, .int 0, .int 1000000]) (rest := []) ⟨hx, hb, hml, hown, hts⟩ (c_X_within l g _ ad _ a1 0 1000000 _) (cwS 3 hts (gd_S tw_67 tw_68 tw_24 tw_69) rfl rfl rfl (by decide +kernel) ⟨Nat.le_of_ble_eq_true rfl, Nat.le_of_ble_eq_true rfl⟩) (wp_S hK hN hP hJ) rfl rfl hl.1 rfl (lv_room (Nat.le_of_ble_eq_true rfl)) d_X_fan_4 ⟨Nat.zero_le _, Nat.zero_le _⟩) hS (fun H locs hP hS => ?_)
  refine lv_if_eq (tgt := 36) hx hb d_X_fan_7 (by decide) (fun c_1 => ?_) (fun c_1 => ?_)
  · skip
    refine lv_iconst (v := 0) hx hb d_X_fan_36 (by decide) ?_
    exact W.zret hx hb hr rfl (fun t ht hW => ⟨⟨_, (), rfl, by (try simp only [x_fan, if_pos c_1]); first | done | rfl, by dsimp only; rw [ht]; (try simp only [x_fan, if_pos c_1]); exact hP⟩, hS.F ht⟩) hS.2.2 d_X_fan_37
  · skip
    refine lv_iload_n hx hb d_X_fan_10 rfl (lv_at hl 2 rfl) ?_
    refine lv_sipush (v := -1000) hx hb d_X_fan_11 (by decide) ?_
    refine lv_sipush (v := 1000) hx hb d_X_fan_14 (by decide) ?_
    refine wc_i (va_runS (As := [.int a2, .int (-1000), .int 1000]) (rest := []) ⟨hx, hb, hml, hown, hts⟩ (c_X_within l g _ ad _ a2 (-1000) 1000 _) (cwS 3 hts (gd_S tw_67 tw_68 tw_24 tw_69) rfl rfl rfl (by decide +kernel) ⟨Nat.le_of_ble_eq_true rfl, Nat.le_of_ble_eq_true rfl⟩) (wp_S hK hN hP hJ) rfl rfl hl.1 rfl (lv_room (Nat.le_of_ble_eq_true rfl)) d_X_fan_17 ⟨Nat.zero_le _, Nat.zero_le _⟩) hS (fun H locs hP hS => ?_)
    refine lv_if_eq (tgt := 36) hx hb d_X_fan_20 (by decide) (fun c_2 => ?_) (fun c_2 => ?_)
    · skip
      refine lv_iconst (v := 0) hx hb d_X_fan_36 (by decide) ?_
      exact W.zret hx hb hr rfl (fun t ht hW => ⟨⟨_, (), rfl, by (try simp only [x_fan, if_neg c_1, if_pos c_2]); first | done | rfl, by dsimp only; rw [ht]; (try simp only [x_fan, if_neg c_1, if_pos c_2]); exact hP⟩, hS.F ht⟩) hS.2.2 d_X_fan_37
    · skip
      refine lv_iload_n hx hb d_X_fan_23 rfl (lv_at hl 3 rfl) ?_
      refine lv_sipush (v := -1000) hx hb d_X_fan_24 (by decide) ?_
      refine lv_sipush (v := 1000) hx hb d_X_fan_27 (by decide) ?_
      refine wc_i (va_runS (As := [.int a3, .int (-1000), .int 1000]) (rest := []) ⟨hx, hb, hml, hown, hts⟩ (c_X_within l g _ ad _ a3 (-1000) 1000 _) (cwS 3 hts (gd_S tw_67 tw_68 tw_24 tw_69) rfl rfl rfl (by decide +kernel) ⟨Nat.le_of_ble_eq_true rfl, Nat.le_of_ble_eq_true rfl⟩) (wp_S hK hN hP hJ) rfl rfl hl.1 rfl (lv_room (Nat.le_of_ble_eq_true rfl)) d_X_fan_30 ⟨Nat.zero_le _, Nat.zero_le _⟩) hS (fun H locs hP hS => ?_)
      refine lv_if_ne (tgt := 38) hx hb d_X_fan_33 (by decide) (fun c_3 => ?_) (fun c_3 => ?_)
      · skip
        refine lv_aload_n hx hb d_X_fan_38 rfl (lv_at hl 0 rfl) ?_
        refine wr_get hx hb hts in_X hown hK hP (0) (by omega) rfl rfl 2 (by decide) (hts _ tw_118) rfl d_X_fan_39 ?_
        refine lv_iload_n hx hb d_X_fan_42 rfl (lv_at hl 1 rfl) ?_
        refine lv_iload_n hx hb d_X_fan_43 rfl (lv_at hl 2 rfl) ?_
        refine lv_iload_n hx hb d_X_fan_44 rfl (lv_at hl 3 rfl) ?_
        refine wc_v (va_runV (As := [.int a1, .int a2, .int a3]) (rest := []) ⟨hx, hb, hml, hown, hts⟩ (c_F_tell l g ad hL x a1 a2 a3 _) (cwV 3 hts (gd_V tw_202 tw_203 tw_204 tw_25 tw_205) rfl rfl rfl (by decide +kernel) ⟨Nat.le_of_ble_eq_true rfl, Nat.le_of_ble_eq_true rfl⟩) (wp_V hK hN hP hJ (2) (by omega) rfl rfl) rfl rfl hl.1 rfl (lv_room (Nat.le_of_ble_eq_true rfl)) d_X_fan_45 ⟨Nat.zero_le _, Nat.zero_le _⟩) hS (fun H locs hP hS => ?_)
        obtain ⟨x_4, ex_4⟩ : ∃ z9, z9 = x_tell x a1 a2 a3 := ⟨_, rfl⟩
        rw [← ex_4] at hP
        refine lv_iconst (v := 1) hx hb d_X_fan_48 (by decide) ?_
        subst ex_4
        exact W.zret hx hb hr rfl (fun t ht hW => ⟨⟨_, (), rfl, by (try simp only [x_fan, if_neg c_1, if_neg c_2, if_neg c_3]); first | done | rfl, by dsimp only; rw [ht]; (try simp only [x_fan, if_neg c_1, if_neg c_2, if_neg c_3]); exact hP⟩, hS.F ht⟩) hS.2.2 d_X_fan_49
      · skip
        refine lv_iconst (v := 0) hx hb d_X_fan_36 (by decide) ?_
        exact W.zret hx hb hr rfl (fun t ht hW => ⟨⟨_, (), rfl, by (try simp only [x_fan, if_neg c_1, if_neg c_2, if_pos c_3]); first | done | rfl, by dsimp only; rw [ht]; (try simp only [x_fan, if_neg c_1, if_neg c_2, if_pos c_3]); exact hP⟩, hS.F ht⟩) hS.2.2 d_X_fan_37
end
section
/-! what a minute leaves as it was: the kinds' ints -/
def xYs (x : xS) : Nat → Nat → Int32 := x.2.2.2.2.2.1
theorem x_rows_of {x y : xS} (h : xYs y = xYs x) (hr : x_rows x) : x_rows y := by
  intro p hp
  obtain ⟨r, h1, h2⟩ := hr p hp
  exact ⟨r, h1, (congrFun (congrFun h p) 0).trans h2⟩
theorem xYs_O (x : xS) (k j : Nat) (v : Int64) : xYs (xO' x k j v) = xYs x := rfl
theorem xYs_T (x : xS) (i j : Nat) (v : Int64) : xYs (xT' x i j v) = xYs x := rfl
theorem xYs_I (x : xS) (k : Nat) (v : Int32) : xYs (xI' x k v) = xYs x := rfl
theorem xYs_F (x : xS) (v : Int64) : xYs (xF' x v) = xYs x := rfl
theorem xYs_breakPart (x : xS) (i p : Nat) (w : Int64) : xYs (x_breakPart x i p w) = xYs x := by
  unfold x_breakPart
  show xYs (xO' (xO' (xO' (xT' (xT' (xT' x _ _ _) _ _ _) _ _ _) _ _ _) _ _ _) _ _ _) = _
  rw [xYs_O, xYs_O, xYs_O, xYs_T, xYs_T, xYs_T]
theorem xYs_break (x : xS) (i : Nat) : xYs (x_break x i) = xYs x := by
  unfold x_break
  split
  · show xYs (x_breakPart (x_breakPart (x_breakPart x i 0 _) i 1 _) i 2 _) = _
    rw [xYs_breakPart, xYs_breakPart, xYs_breakPart]
  · rfl
theorem xYs_takeSurplus (x : xS) (i : Nat) : xYs (x_takeSurplus x i) = xYs x := rfl
theorem xYs_loseHeat (x : xS) (i : Nat) : xYs (x_loseHeat x i) = xYs x := by
  unfold x_loseHeat
  show xYs (xO' (xT' x _ _ _) _ _ _) = _
  rw [xYs_O, xYs_T]
theorem xYs_driveOff (x : xS) (i : Nat) : xYs (x_driveOff x i) = xYs x := by
  unfold x_driveOff
  show xYs (xO' (xO' (xT' (xT' x _ _ _) _ _ _) _ _ _) _ _ _) = _
  rw [xYs_O, xYs_O, xYs_T, xYs_T]
theorem xYs_pour (L : Nat) (x : xS) (gr : Int64) (l : Int32) : xYs (x_pour L x gr l) = xYs x := by
  unfold x_pour
  split
  · exact xYs_O _ _ _ _
  · exact xYs_T _ _ _ _
theorem xYs_layer (L : Nat) (x : xS) (i : Nat) : xYs (x_layer L x i) = xYs x := by
  unfold x_layer
  show xYs (x_pour L (x_takeSurplus (x_driveOff (x_loseHeat (x_break x i) i) i) i) _ _) = _
  rw [xYs_pour, xYs_takeSurplus, xYs_driveOff, xYs_loseHeat, xYs_break]
theorem xYs_layersN (L : Nat) (x : xS) : ∀ n, xYs (x_layersN L x n) = xYs x
  | 0 => rfl
  | n + 1 => by
    rw [x_layersN, xYs_layer, xYs_layersN L x n]
theorem xYs_adjust (x : xS) (gw : Int64) : xYs (x_adjust x gw) = xYs x := by
  unfold x_adjust
  split
  · rfl
  · show xYs (xI' (xF' x _) _ _) = _
    rw [xYs_I, xYs_F]
theorem xYs_minute (L : Nat) (x : xS) : xYs (x_minute L x) = xYs x := by
  unfold x_minute
  show xYs (xO' (x_adjust (x_layersN L (xO' (x_pour L x _ _) _ _ _) L) _) _ _ _) = _
  rw [xYs_O, xYs_adjust, xYs_layersN, xYs_O, xYs_pour]
theorem x_rows_breakPart {x : xS} (h : x_rows x) (i p : Nat) (w : Int64) : x_rows (x_breakPart x i p w) := x_rows_of (xYs_breakPart x i p w) h
theorem x_rows_layersN {x : xS} (h : x_rows x) (L n : Nat) : x_rows (x_layersN L x n) := x_rows_of (xYs_layersN L x n) h
theorem x_rows_minute {x : xS} (h : x_rows x) (L : Nat) : x_rows (x_minute L x) := x_rows_of (xYs_minute L x) h
theorem x_within_run {a : Int32} (h : ¬ x_within a 1 1000 = 0) : ∃ j : Nat, j ≤ 1000 ∧ 1 ≤ j ∧ a = nI j := by
  unfold x_within at h
  by_cases h1 : a < 1
  · rw [if_pos h1] at h; exact absurd rfl h
  · rw [if_neg h1] at h
    by_cases h2 : (1000 : Int32) < a
    · rw [if_pos h2] at h; exact absurd rfl h
    · have h3 : ¬ a < 0 := fun q => h1 (Int32.lt_trans q (by decide))
      obtain ⟨j, hj, rfl⟩ := nI_of2 (n := 1000) (M := 1000) (by decide) h3 (Int32.not_lt.mp h2)
      refine ⟨j, hj, ?_, rfl⟩
      rcases Nat.eq_zero_or_pos j with rfl | q
      · exact absurd (by decide) h1
      · exact q
theorem x_goN_step {L fu r : Nat} {z : xS} (h : ¬ 0 < lg_cmp (x_gwN z L) (Int32.toInt64 (xI z 2))) : ((x_goN L (fu + 1) z).1 + r, (x_goN L (fu + 1) z).2) = ((x_goN L fu (x_minute L z)).1 + (r + 1), (x_goN L fu (x_minute L z)).2) := by
  rw [x_goN, if_neg h]
  congr 1
  simp only
  omega
end
section
set_option maxHeartbeats 4000000 in
set_option maxRecDepth 100000 in
theorem c_X_greatestWarmth (l : Launch) (g : wG) (ad : Nat → Nat) {L : Nat} (hL : 1 ≤ L ∧ L ≤ 6) (x : xS) : CtL l y_X_greatestWarmth ws_X_greatestWarmth ({ frames := 2, cells := 0, slots := 0, locals := 45 }) g (16 + 2 * L) ad (xE g ad L x) (xE g ad L x) [.ref (ad 0)] (x_gwN x L) := by
  intro sz
  refine Met.ofW (cc := b_X_greatestWarmth) (maxL := 7) (ret := (some .long)) (by decide +kernel) rfl ?_
  intro p e s m args below meth c s₁ B hml hv
  obtain ⟨rfl, hsz, hP, hK, hN, hJ⟩ := hv
  have hx := B.exec
  have hb := B.bytes
  have hr := B.returns
  have hts0 := atoms_spec (ws := ws_X_greatestWarmth) B.pre
  have hts : ∀ w ∈ tb, w.before _ s = true := fun w h => hts0 w (List.mem_cons_of_mem _ h)
  have hown : s.vm.findClass "HeapSteps" = some m.cls := findClass_of_methodNamed B.named
  have hlocks := B.notSynchronized
  subst hsz
  have hS : va_S (wA (16 + 2 * L) ad s.heap.size) s.heap s.heap [] := va_S.rf
  have hl := lv_entry ([.ref (ad 0)]) (n := 7) (Nat.le_of_ble_eq_true rfl)
  rw [lg_entry_eq]
  generalize (lg_sl ([.ref (ad 0)]) ++ List.replicate (7 - (lg_sl ([.ref (ad 0)])).length) Slot.unset).toArray = ls at hl ⊢
  have hl : lv_has ls 7 [(0, .ref (ad 0))] := hl
  refine lv_lconst (v := 0) hx hb d_X_greatestWarmth_0 (by decide) ?_
  refine lv_lstore_n (lv' := [(1, .long 0), (0, .ref (ad 0))]) hx hb d_X_greatestWarmth_1 rfl hl (by decide) rfl (fun ls hl => ?_)
  refine lv_aload_n hx hb d_X_greatestWarmth_2 rfl (lv_at hl 1 rfl) ?_
  refine wr_get hx hb hts in_X hown hK hP (0) (by omega) rfl rfl 0 (by decide) (hts _ tw_116) rfl d_X_greatestWarmth_3 ?_
  refine lv_astore_n (lv' := [(3, .ref (ad 6)), (1, .long 0), (0, .ref (ad 0))]) hx hb d_X_greatestWarmth_6 rfl hl (by decide) rfl (fun ls hl => ?_)
  refine lv_aload_n hx hb d_X_greatestWarmth_7 rfl (lv_at hl 0 rfl) ?_
  refine wr_alen (v := nI L) hx hb hK hP (6) 2 (by omega) rfl rfl rfl d_X_greatestWarmth_8 ?_
  refine lv_istore (lv' := [(4, .int (nI L)), (3, .ref (ad 6)), (1, .long 0), (0, .ref (ad 0))]) hx hb d_X_greatestWarmth_9 hl (by decide) rfl (fun ls hl => ?_)
  refine lv_iconst (v := 0) hx hb d_X_greatestWarmth_11 (by decide) ?_
  refine lv_istore (lv' := [(5, .int 0), (4, .int (nI L)), (3, .ref (ad 6)), (1, .long 0), (0, .ref (ad 0))]) hx hb d_X_greatestWarmth_12 hl (by decide) rfl (fun ls hl => ?_)
  refine wl_loop (pc := 14) (fun fu H locs ls => ∃ i : Nat, i + fu = L ∧ va_P g.1 vwCl (wo (16 + 2 * L) ad (xE g ad L x)) H ∧ va_S (wA (16 + 2 * L) ad s.heap.size) s.heap H locs ∧ lv_has ls 7 [(5, .int (nI i)), (4, .int (nI L)), (3, .ref (ad 6)), (1, .long (x_gwN x i)), (0, .ref (ad 0))]) ?_ ?_ L _ _ _ ⟨0, by omega, hP, hS, lv_sub hl [0, 1, 2, 3, 4] rfl⟩
  · intro H locs ls hI
    obtain ⟨i, hi, hP, hS, hl⟩ := hI
    have hT_i : i = L := by omega
    try rw [hT_i] at hP
    try rw [hT_i] at hl
    refine lv_iload hx hb d_X_greatestWarmth_14 (lv_at hl 0 rfl) ?_
    refine lv_iload hx hb d_X_greatestWarmth_16 (lv_at hl 1 rfl) ?_
    refine lv_icmp_ge (tgt := 43) hx hb d_X_greatestWarmth_18 (by decide) (fun c_1 => ?_) (fun c_1 => absurd (nI_le (by omega) (by omega)) c_1)
    refine lv_lload_n hx hb d_X_greatestWarmth_43 rfl (lv_at hl 3 rfl) ?_
    exact W.lret hx hb hr (fun t ht hW => ⟨⟨_, (), rfl, by skip; first | done | rfl, by dsimp only; rw [ht]; skip; exact hP⟩, hS.F ht⟩) hS.2.2 d_X_greatestWarmth_44
  · intro fu ih_i H locs ls hI
    obtain ⟨i, hi, hP, hS, hl⟩ := hI
    have hi_i : i < L := by omega
    refine lv_iload hx hb d_X_greatestWarmth_14 (lv_at hl 0 rfl) ?_
    refine lv_iload hx hb d_X_greatestWarmth_16 (lv_at hl 1 rfl) ?_
    refine lv_icmp_ge (tgt := 43) hx hb d_X_greatestWarmth_18 (by decide) (fun c_2 => absurd c_2 (nI_ge hi_i (by omega))) (fun c_2 => ?_)
    refine lv_aload_n hx hb d_X_greatestWarmth_21 rfl (lv_at hl 2 rfl) ?_
    refine lv_iload hx hb d_X_greatestWarmth_22 (lv_at hl 0 rfl) ?_
    refine wr_aldq hx hb hK hP (6) 2 (by omega) rfl rfl i rfl (by omega) (by omega) (v := ad (7 + 2 * i)) (if_pos hi_i) d_X_greatestWarmth_24 ?_
    refine lv_astore (lv' := [(6, .ref (ad (7 + 2 * i))), (5, .int (nI i)), (4, .int (nI L)), (3, .ref (ad 6)), (1, .long (x_gwN x i)), (0, .ref (ad 0))]) hx hb d_X_greatestWarmth_25 hl (by decide) rfl (fun ls hl => ?_)
    refine lv_lload_n hx hb d_X_greatestWarmth_27 rfl (lv_at hl 4 rfl) ?_
    refine lv_aload hx hb d_X_greatestWarmth_28 (lv_at hl 0 rfl) ?_
    refine wc_l (va_runV (As := []) (rest := [.long (x_gwN x i)]) ⟨hx, hb, hml, hown, hts⟩ (c_Y_warmthNow l g ad hL x hi_i _) (cwV 0 hts (gd_V tw_219 tw_220 tw_221 tw_26 tw_222) rfl rfl rfl (by decide +kernel) ⟨Nat.le_of_ble_eq_true rfl, Nat.le_of_ble_eq_true rfl⟩) (wp_V hK hN hP hJ (7 + 2 * i) (by omega) (xE_lay g ad L x hi_i) rfl) rfl rfl hl.1 rfl (lv_room (Nat.le_of_ble_eq_true rfl)) d_X_greatestWarmth_30 ⟨Nat.zero_le _, Nat.zero_le _⟩) hS (fun H locs hP hS => ?_)
    refine va_mmax_long hx hb (hml.trans hl.1.symm) hown (hts _ tw_227) (hts _ tw_228) (hts _ tw_29) (hts _ tw_229) (Nat.le_of_ble_eq_true rfl) (Nat.le_of_ble_eq_true rfl) (Nat.zero_le _) (Nat.zero_le _) d_X_greatestWarmth_33 ?_
    refine W.eq (g2 := F0 m 36 ls [.long (x_max (x_gwN x i) (x_warm x i))]) rfl ?_
    refine lv_topl (fun v_3 ev_3 => ?_)
    refine lv_lstore_n (lv' := [(1, .long v_3), (6, .ref (ad (7 + 2 * i))), (5, .int (nI i)), (4, .int (nI L)), (3, .ref (ad 6)), (0, .ref (ad 0))]) hx hb d_X_greatestWarmth_36 rfl hl (by decide) rfl (fun ls hl => ?_)
    refine lv_iinc (v := nI (i + 1)) (lv' := [(5, .int (nI (i + 1))), (1, .long v_3), (6, .ref (ad (7 + 2 * i))), (4, .int (nI L)), (3, .ref (ad 6)), (0, .ref (ad 0))]) hx hb d_X_greatestWarmth_37 hl (k := 2) rfl (nI_1 i) (by decide) rfl (fun ls hl => ?_)
    refine lv_goto (tgt := 14) hx hb d_X_greatestWarmth_40 (by decide) ?_
    subst ev_3
    exact ih_i _ _ _ ⟨i + 1, by omega, (by skip; exact hP), hS, lv_sub hl [0, 3, 4, 1, 5] (by skip; rfl)⟩
set_option maxHeartbeats 4000000 in
set_option maxRecDepth 100000 in
theorem c_X_inAllLayers (l : Launch) (g : wG) (ad : Nat → Nat) {L : Nat} (hL : 1 ≤ L ∧ L ≤ 6) (x : xS) (k : Nat) (hk : k < 5) : CtL l y_X_inAllLayers ws_X_inAllLayers ({ frames := 0, cells := 0, slots := 0, locals := 0 }) g (16 + 2 * L) ad (xE g ad L x) (xE g ad L x) [.ref (ad 0), .int (nI k)] (x_inAllN x k L) := by
  intro sz
  refine Met.ofW (cc := b_X_inAllLayers) (maxL := 8) (ret := (some .long)) (by decide +kernel) rfl ?_
  intro p e s m args below meth c s₁ B hml hv
  obtain ⟨rfl, hsz, hP, hK, hN, hJ⟩ := hv
  have hx := B.exec
  have hb := B.bytes
  have hr := B.returns
  have hts0 := atoms_spec (ws := ws_X_inAllLayers) B.pre
  have hts : ∀ w ∈ tb, w.before _ s = true := fun w h => hts0 w (List.mem_cons_of_mem _ h)
  have hown : s.vm.findClass "HeapSteps" = some m.cls := findClass_of_methodNamed B.named
  have hlocks := B.notSynchronized
  subst hsz
  have hS : va_S (wA (16 + 2 * L) ad s.heap.size) s.heap s.heap [] := va_S.rf
  have hl := lv_entry ([.ref (ad 0), .int (nI k)]) (n := 8) (Nat.le_of_ble_eq_true rfl)
  rw [lg_entry_eq]
  generalize (lg_sl ([.ref (ad 0), .int (nI k)]) ++ List.replicate (8 - (lg_sl ([.ref (ad 0), .int (nI k)])).length) Slot.unset).toArray = ls at hl ⊢
  have hl : lv_has ls 8 [(0, .ref (ad 0)), (1, .int (nI k))] := hl
  refine lv_lconst (v := 0) hx hb d_X_inAllLayers_0 (by decide) ?_
  refine lv_lstore_n (lv' := [(2, .long 0), (0, .ref (ad 0)), (1, .int (nI k))]) hx hb d_X_inAllLayers_1 rfl hl (by decide) rfl (fun ls hl => ?_)
  refine lv_aload_n hx hb d_X_inAllLayers_2 rfl (lv_at hl 1 rfl) ?_
  refine wr_get hx hb hts in_X hown hK hP (0) (by omega) rfl rfl 0 (by decide) (hts _ tw_116) rfl d_X_inAllLayers_3 ?_
  refine lv_astore (lv' := [(4, .ref (ad 6)), (2, .long 0), (0, .ref (ad 0)), (1, .int (nI k))]) hx hb d_X_inAllLayers_6 hl (by decide) rfl (fun ls hl => ?_)
  refine lv_aload hx hb d_X_inAllLayers_8 (lv_at hl 0 rfl) ?_
  refine wr_alen (v := nI L) hx hb hK hP (6) 2 (by omega) rfl rfl rfl d_X_inAllLayers_10 ?_
  refine lv_istore (lv' := [(5, .int (nI L)), (4, .ref (ad 6)), (2, .long 0), (0, .ref (ad 0)), (1, .int (nI k))]) hx hb d_X_inAllLayers_11 hl (by decide) rfl (fun ls hl => ?_)
  refine lv_iconst (v := 0) hx hb d_X_inAllLayers_13 (by decide) ?_
  refine lv_istore (lv' := [(6, .int 0), (5, .int (nI L)), (4, .ref (ad 6)), (2, .long 0), (0, .ref (ad 0)), (1, .int (nI k))]) hx hb d_X_inAllLayers_14 hl (by decide) rfl (fun ls hl => ?_)
  refine wl_loop (pc := 16) (fun fu H locs ls => ∃ i : Nat, i + fu = L ∧ va_P g.1 vwCl (wo (16 + 2 * L) ad (xE g ad L x)) H ∧ va_S (wA (16 + 2 * L) ad s.heap.size) s.heap H locs ∧ lv_has ls 8 [(6, .int (nI i)), (5, .int (nI L)), (4, .ref (ad 6)), (2, .long (x_inAllN x k i)), (0, .ref (ad 0)), (1, .int (nI k))]) ?_ ?_ L _ _ _ ⟨0, by omega, hP, hS, lv_sub hl [0, 1, 2, 3, 4, 5] rfl⟩
  · intro H locs ls hI
    obtain ⟨i, hi, hP, hS, hl⟩ := hI
    have hT_i : i = L := by omega
    try rw [hT_i] at hP
    try rw [hT_i] at hl
    refine lv_iload hx hb d_X_inAllLayers_16 (lv_at hl 0 rfl) ?_
    refine lv_iload hx hb d_X_inAllLayers_18 (lv_at hl 1 rfl) ?_
    refine lv_icmp_ge (tgt := 46) hx hb d_X_inAllLayers_20 (by decide) (fun c_1 => ?_) (fun c_1 => absurd (nI_le (by omega) (by omega)) c_1)
    refine lv_lload_n hx hb d_X_inAllLayers_46 rfl (lv_at hl 3 rfl) ?_
    exact W.lret hx hb hr (fun t ht hW => ⟨⟨_, (), rfl, by skip; first | done | rfl, by dsimp only; rw [ht]; skip; exact hP⟩, hS.F ht⟩) hS.2.2 d_X_inAllLayers_47
  · intro fu ih_i H locs ls hI
    obtain ⟨i, hi, hP, hS, hl⟩ := hI
    have hi_i : i < L := by omega
    refine lv_iload hx hb d_X_inAllLayers_16 (lv_at hl 0 rfl) ?_
    refine lv_iload hx hb d_X_inAllLayers_18 (lv_at hl 1 rfl) ?_
    refine lv_icmp_ge (tgt := 46) hx hb d_X_inAllLayers_20 (by decide) (fun c_2 => absurd c_2 (nI_ge hi_i (by omega))) (fun c_2 => ?_)
    refine lv_aload hx hb d_X_inAllLayers_23 (lv_at hl 2 rfl) ?_
    refine lv_iload hx hb d_X_inAllLayers_25 (lv_at hl 0 rfl) ?_
    refine wr_aldq hx hb hK hP (6) 2 (by omega) rfl rfl i rfl (by omega) (by omega) (v := ad (7 + 2 * i)) (if_pos hi_i) d_X_inAllLayers_27 ?_
    refine lv_astore (lv' := [(7, .ref (ad (7 + 2 * i))), (6, .int (nI i)), (5, .int (nI L)), (4, .ref (ad 6)), (2, .long (x_inAllN x k i)), (0, .ref (ad 0)), (1, .int (nI k))]) hx hb d_X_inAllLayers_28 hl (by decide) rfl (fun ls hl => ?_)
    refine lv_lload_n hx hb d_X_inAllLayers_30 rfl (lv_at hl 4 rfl) ?_
    refine lv_aload hx hb d_X_inAllLayers_31 (lv_at hl 0 rfl) ?_
    refine wr_get hx hb hts in_Y hown hK hP (7 + 2 * i) (by omega) (xE_lay g ad L x hi_i) rfl 0 (by decide) (hts _ tw_79) rfl d_X_inAllLayers_33 ?_
    refine lv_iload_n hx hb d_X_inAllLayers_36 rfl (lv_at hl 6 rfl) ?_
    refine wr_lald hx hb hK hP (8 + 2 * i) 0 (by omega) (xE_stk g ad L x hi_i) rfl k rfl (by omega) (by omega) d_X_inAllLayers_37 ?_
    refine lv_ladd hx hb d_X_inAllLayers_38 ?_
    refine lv_topl (fun v_3 ev_3 => ?_)
    refine lv_lstore_n (lv' := [(2, .long v_3), (7, .ref (ad (7 + 2 * i))), (6, .int (nI i)), (5, .int (nI L)), (4, .ref (ad 6)), (0, .ref (ad 0)), (1, .int (nI k))]) hx hb d_X_inAllLayers_39 rfl hl (by decide) rfl (fun ls hl => ?_)
    refine lv_iinc (v := nI (i + 1)) (lv' := [(6, .int (nI (i + 1))), (2, .long v_3), (7, .ref (ad (7 + 2 * i))), (5, .int (nI L)), (4, .ref (ad 6)), (0, .ref (ad 0)), (1, .int (nI k))]) hx hb d_X_inAllLayers_40 hl (k := 2) rfl (nI_1 i) (by decide) rfl (fun ls hl => ?_)
    refine lv_goto (tgt := 16) hx hb d_X_inAllLayers_43 (by decide) ?_
    subst ev_3
    exact ih_i _ _ _ ⟨i + 1, by omega, (by skip; exact hP), hS, lv_sub hl [0, 3, 4, 1, 5, 6] (by skip; rfl)⟩
set_option maxHeartbeats 4000000 in
set_option maxRecDepth 100000 in
theorem c_X_putInLessThere (l : Launch) (g : wG) (ad : Nat → Nat) {L : Nat} (hL : 1 ≤ L ∧ L ≤ 6) (x : xS) (k : Nat) (hk : k < 5) : CtL l y_X_putInLessThere ws_X_putInLessThere ({ frames := 1, cells := 0, slots := 0, locals := 27 }) g (16 + 2 * L) ad (xE g ad L x) (xE g ad L x) [.ref (ad 0), .int (nI k)] (x_less L x k) := by
  intro sz
  refine Met.ofW (cc := b_X_putInLessThere) (maxL := 2) (ret := (some .long)) (by decide +kernel) rfl ?_
  intro p e s m args below meth c s₁ B hml hv
  obtain ⟨rfl, hsz, hP, hK, hN, hJ⟩ := hv
  have hx := B.exec
  have hb := B.bytes
  have hr := B.returns
  have hts0 := atoms_spec (ws := ws_X_putInLessThere) B.pre
  have hts : ∀ w ∈ tb, w.before _ s = true := fun w h => hts0 w (List.mem_cons_of_mem _ h)
  have hown : s.vm.findClass "HeapSteps" = some m.cls := findClass_of_methodNamed B.named
  have hlocks := B.notSynchronized
  subst hsz
  have hS : va_S (wA (16 + 2 * L) ad s.heap.size) s.heap s.heap [] := va_S.rf
  have hl := lv_entry ([.ref (ad 0), .int (nI k)]) (n := 2) (Nat.le_of_ble_eq_true rfl)
  rw [lg_entry_eq]
  generalize (lg_sl ([.ref (ad 0), .int (nI k)]) ++ List.replicate (2 - (lg_sl ([.ref (ad 0), .int (nI k)])).length) Slot.unset).toArray = ls at hl ⊢
  have hl : lv_has ls 2 [(0, .ref (ad 0)), (1, .int (nI k))] := hl
  refine lv_aload_n hx hb d_X_putInLessThere_0 rfl (lv_at hl 0 rfl) ?_
  refine wr_get hx hb hts in_X hown hK hP (0) (by omega) rfl rfl 4 (by decide) (hts _ tw_120) rfl d_X_putInLessThere_1 ?_
  refine lv_iload_n hx hb d_X_putInLessThere_4 rfl (lv_at hl 1 rfl) ?_
  refine wr_lald hx hb hK hP (4) 0 (by omega) rfl rfl k rfl (by omega) (by omega) d_X_putInLessThere_5 ?_
  refine lv_aload_n hx hb d_X_putInLessThere_6 rfl (lv_at hl 0 rfl) ?_
  refine wr_get hx hb hts in_X hown hK hP (0) (by omega) rfl rfl 5 (by decide) (hts _ tw_121) rfl d_X_putInLessThere_7 ?_
  refine lv_iload_n hx hb d_X_putInLessThere_10 rfl (lv_at hl 1 rfl) ?_
  refine wr_lald hx hb hK hP (5) 0 (by omega) rfl rfl k rfl (by omega) (by omega) d_X_putInLessThere_11 ?_
  refine lv_lsub hx hb d_X_putInLessThere_12 ?_
  refine lv_aload_n hx hb d_X_putInLessThere_13 rfl (lv_at hl 0 rfl) ?_
  refine lv_iload_n hx hb d_X_putInLessThere_14 rfl (lv_at hl 1 rfl) ?_
  refine wc_l (va_runV (As := [.int (nI k)]) (rest := [.long ((xO x 1 k) - (xO x 2 k))]) ⟨hx, hb, hml, hown, hts⟩ (c_X_inAllLayers l g ad hL x k (by omega) _) (cwV 1 hts (gd_V tw_310 tw_312 tw_10 tw_24 tw_313) rfl rfl rfl (by decide +kernel) ⟨Nat.le_of_ble_eq_true rfl, Nat.le_of_ble_eq_true rfl⟩) (wp_V hK hN hP hJ (0) (by omega) rfl rfl) rfl rfl hl.1 rfl (lv_room (Nat.le_of_ble_eq_true rfl)) d_X_putInLessThere_15 ⟨Nat.zero_le _, Nat.zero_le _⟩) hS (fun H locs hP hS => ?_)
  refine lv_lsub hx hb d_X_putInLessThere_18 ?_
  exact W.lret hx hb hr (fun t ht hW => ⟨⟨_, (), rfl, by (try simp only [x_less]); first | done | rfl, by dsimp only; rw [ht]; (try simp only [x_less]); exact hP⟩, hS.F ht⟩) hS.2.2 d_X_putInLessThere_19
set_option maxHeartbeats 4000000 in
set_option maxRecDepth 100000 in
theorem c_X_left (l : Launch) (g : wG) (ad : Nat → Nat) {L : Nat} (hL : 1 ≤ L ∧ L ≤ 6) (x : xS) (a1 a2 : Int32) : CtL l y_X_left ws_X_left ({ frames := 2, cells := 0, slots := 0, locals := 43 }) g (16 + 2 * L) ad (xE g ad L x) (xE g ad L x) [.ref (ad 0), .int a1, .int a2] (x_left L x a1 a2) := by
  intro sz
  refine Met.ofW (cc := b_X_left) (maxL := 4) (ret := (some .long)) (by decide +kernel) rfl ?_
  intro p e s m args below meth c s₁ B hml hv
  obtain ⟨rfl, hsz, hP, hK, hN, hJ⟩ := hv
  have hx := B.exec
  have hb := B.bytes
  have hr := B.returns
  have hts0 := atoms_spec (ws := ws_X_left) B.pre
  have hts : ∀ w ∈ tb, w.before _ s = true := fun w h => hts0 w (List.mem_cons_of_mem _ h)
  have hown : s.vm.findClass "HeapSteps" = some m.cls := findClass_of_methodNamed B.named
  have hlocks := B.notSynchronized
  subst hsz
  have hS : va_S (wA (16 + 2 * L) ad s.heap.size) s.heap s.heap [] := va_S.rf
  have hl := lv_entry ([.ref (ad 0), .int a1, .int a2]) (n := 4) (Nat.le_of_ble_eq_true rfl)
  rw [lg_entry_eq]
  generalize (lg_sl ([.ref (ad 0), .int a1, .int a2]) ++ List.replicate (4 - (lg_sl ([.ref (ad 0), .int a1, .int a2])).length) Slot.unset).toArray = ls at hl ⊢
  have hl : lv_has ls 4 [(0, .ref (ad 0)), (1, .int a1), (2, .int a2)] := hl
  refine lv_aload_n hx hb d_X_left_0 rfl (lv_at hl 0 rfl) ?_
  refine lv_iload_n hx hb d_X_left_1 rfl (lv_at hl 1 rfl) ?_
  refine wc_q (va_runV (As := [.int a1]) (rest := []) ⟨hx, hb, hml, hown, hts⟩ (c_X_layerAt l g ad hL x a1 _) (cwV 1 hts (gd_V tw_155 tw_157 tw_0 tw_24 tw_158) rfl rfl rfl (by decide +kernel) ⟨Nat.le_of_ble_eq_true rfl, Nat.le_of_ble_eq_true rfl⟩) (wp_V hK hN hP hJ (0) (by omega) rfl rfl) rfl rfl hl.1 rfl (lv_room (Nat.le_of_ble_eq_true rfl)) d_X_left_2 ⟨Nat.zero_le _, Nat.zero_le _⟩) hS (fun H locs hP hS => ?_)
  rcases x_la_cases hL a1 with q_1 | ⟨i_2, hi_2, hni_2, q_1⟩
  · rw [q_1]
    refine W.eq (g2 := F0 m 5 ls [.null]) rfl ?_
    refine lv_astore_nN (lv' := [(3, .null), (0, .ref (ad 0)), (1, .int a1), (2, .int a2)]) hx hb d_X_left_5 rfl hl (by decide) rfl (fun ls hl => ?_)
    refine lv_aload_nN hx hb d_X_left_6 rfl (lv_at hl 0 rfl) ?_
    refine lv_ifnullN (tgt := 17) hx hb d_X_left_7 (by decide) ?_
    refine lv_ldc2 (v := -1) hx hb hown (hts _ tw_289) d_X_left_17 ?_
    refine lv_goto (tgt := 29) hx hb d_X_left_20 (by decide) ?_
    exact W.lret hx hb hr (fun t ht hW => ⟨⟨_, (), rfl, by (try simp only [x_left, q_1]); first | done | rfl, by dsimp only; rw [ht]; (try simp only [x_left, q_1]); exact hP⟩, hS.F ht⟩) hS.2.2 d_X_left_29
  · rw [q_1]
    refine W.eq (g2 := F0 m 5 ls [.ref (ad (7 + 2 * i_2))]) rfl ?_
    refine lv_astore_n (lv' := [(3, .ref (ad (7 + 2 * i_2))), (0, .ref (ad 0)), (1, .int a1), (2, .int a2)]) hx hb d_X_left_5 rfl hl (by decide) rfl (fun ls hl => ?_)
    refine lv_aload_n hx hb d_X_left_6 rfl (lv_at hl 0 rfl) ?_
    refine lv_ifnull hx hb d_X_left_7 ?_
    refine lv_iload_n hx hb d_X_left_10 rfl (lv_at hl 3 rfl) ?_
    refine wc_i (va_runS (As := [.int a2]) (rest := []) ⟨hx, hb, hml, hown, hts⟩ (c_X_isPart l g _ ad _ a2 _) (cwS 1 hts (gd_S tw_151 tw_152 tw_24 tw_153) rfl rfl rfl (by decide +kernel) ⟨Nat.le_of_ble_eq_true rfl, Nat.le_of_ble_eq_true rfl⟩) (wp_S hK hN hP hJ) rfl rfl hl.1 rfl (lv_room (Nat.le_of_ble_eq_true rfl)) d_X_left_11 ⟨Nat.zero_le _, Nat.zero_le _⟩) hS (fun H locs hP hS => ?_)
    refine lv_if_ne (tgt := 23) hx hb d_X_left_14 (by decide) (fun c_3 => ?_) (fun c_3 => ?_)
    · skip
      obtain ⟨k, hk, rfl⟩ := x_within_nat (n := 2) (by decide) c_3
      refine lv_aload_n hx hb d_X_left_23 rfl (lv_at hl 0 rfl) ?_
      refine wr_get hx hb hts in_Y hown hK hP (7 + 2 * i_2) (by omega) (xE_lay g ad L x hi_2) rfl 0 (by decide) (hts _ tw_79) rfl d_X_left_24 ?_
      refine lv_iload_n hx hb d_X_left_27 rfl (lv_at hl 3 rfl) ?_
      refine wr_lald hx hb hK hP (8 + 2 * i_2) 0 (by omega) (xE_stk g ad L x hi_2) rfl k rfl (by omega) (by omega) d_X_left_28 ?_
      exact W.lret hx hb hr (fun t ht hW => ⟨⟨_, (), rfl, by (try simp only [x_left, if_neg c_3, q_1, nI_clamp (show k < 2 ^ 31 by omega)]); first | done | rfl, by dsimp only; rw [ht]; (try simp only [x_left, if_neg c_3, q_1, nI_clamp (show k < 2 ^ 31 by omega)]); exact hP⟩, hS.F ht⟩) hS.2.2 d_X_left_29
    · skip
      refine lv_ldc2 (v := -1) hx hb hown (hts _ tw_289) d_X_left_17 ?_
      refine lv_goto (tgt := 29) hx hb d_X_left_20 (by decide) ?_
      exact W.lret hx hb hr (fun t ht hW => ⟨⟨_, (), rfl, by (try simp only [x_left, if_pos c_3, q_1]); first | done | rfl, by dsimp only; rw [ht]; (try simp only [x_left, if_pos c_3, q_1]); exact hP⟩, hS.F ht⟩) hS.2.2 d_X_left_29
set_option maxHeartbeats 4000000 in
set_option maxRecDepth 100000 in
theorem c_X_wet (l : Launch) (g : wG) (ad : Nat → Nat) {L : Nat} (hL : 1 ≤ L ∧ L ≤ 6) (x : xS) (a1 : Int32) : CtL l y_X_wet ws_X_wet ({ frames := 2, cells := 0, slots := 0, locals := 43 }) g (16 + 2 * L) ad (xE g ad L x) (xE g ad L x) [.ref (ad 0), .int a1] (x_wet L x a1) := by
  intro sz
  refine Met.ofW (cc := b_X_wet) (maxL := 3) (ret := (some .long)) (by decide +kernel) rfl ?_
  intro p e s m args below meth c s₁ B hml hv
  obtain ⟨rfl, hsz, hP, hK, hN, hJ⟩ := hv
  have hx := B.exec
  have hb := B.bytes
  have hr := B.returns
  have hts0 := atoms_spec (ws := ws_X_wet) B.pre
  have hts : ∀ w ∈ tb, w.before _ s = true := fun w h => hts0 w (List.mem_cons_of_mem _ h)
  have hown : s.vm.findClass "HeapSteps" = some m.cls := findClass_of_methodNamed B.named
  have hlocks := B.notSynchronized
  subst hsz
  have hS : va_S (wA (16 + 2 * L) ad s.heap.size) s.heap s.heap [] := va_S.rf
  have hl := lv_entry ([.ref (ad 0), .int a1]) (n := 3) (Nat.le_of_ble_eq_true rfl)
  rw [lg_entry_eq]
  generalize (lg_sl ([.ref (ad 0), .int a1]) ++ List.replicate (3 - (lg_sl ([.ref (ad 0), .int a1])).length) Slot.unset).toArray = ls at hl ⊢
  have hl : lv_has ls 3 [(0, .ref (ad 0)), (1, .int a1)] := hl
  refine lv_aload_n hx hb d_X_wet_0 rfl (lv_at hl 0 rfl) ?_
  refine lv_iload_n hx hb d_X_wet_1 rfl (lv_at hl 1 rfl) ?_
  refine wc_q (va_runV (As := [.int a1]) (rest := []) ⟨hx, hb, hml, hown, hts⟩ (c_X_layerAt l g ad hL x a1 _) (cwV 1 hts (gd_V tw_155 tw_157 tw_0 tw_24 tw_158) rfl rfl rfl (by decide +kernel) ⟨Nat.le_of_ble_eq_true rfl, Nat.le_of_ble_eq_true rfl⟩) (wp_V hK hN hP hJ (0) (by omega) rfl rfl) rfl rfl hl.1 rfl (lv_room (Nat.le_of_ble_eq_true rfl)) d_X_wet_2 ⟨Nat.zero_le _, Nat.zero_le _⟩) hS (fun H locs hP hS => ?_)
  rcases x_la_cases hL a1 with q_1 | ⟨i_2, hi_2, hni_2, q_1⟩
  · rw [q_1]
    refine W.eq (g2 := F0 m 5 ls [.null]) rfl ?_
    refine lv_astore_nN (lv' := [(2, .null), (0, .ref (ad 0)), (1, .int a1)]) hx hb d_X_wet_5 rfl hl (by decide) rfl (fun ls hl => ?_)
    refine lv_aload_nN hx hb d_X_wet_6 rfl (lv_at hl 0 rfl) ?_
    refine lv_ifnonnullN hx hb d_X_wet_7 ?_
    refine lv_ldc2 (v := -1) hx hb hown (hts _ tw_289) d_X_wet_10 ?_
    refine lv_goto (tgt := 22) hx hb d_X_wet_13 (by decide) ?_
    exact W.lret hx hb hr (fun t ht hW => ⟨⟨_, (), rfl, by (try simp only [x_wet, q_1]); first | done | rfl, by dsimp only; rw [ht]; (try simp only [x_wet, q_1]); exact hP⟩, hS.F ht⟩) hS.2.2 d_X_wet_22
  · rw [q_1]
    refine W.eq (g2 := F0 m 5 ls [.ref (ad (7 + 2 * i_2))]) rfl ?_
    refine lv_astore_n (lv' := [(2, .ref (ad (7 + 2 * i_2))), (0, .ref (ad 0)), (1, .int a1)]) hx hb d_X_wet_5 rfl hl (by decide) rfl (fun ls hl => ?_)
    refine lv_aload_n hx hb d_X_wet_6 rfl (lv_at hl 0 rfl) ?_
    refine lv_ifnonnull (tgt := 16) hx hb d_X_wet_7 (by decide) ?_
    refine lv_aload_n hx hb d_X_wet_16 rfl (lv_at hl 0 rfl) ?_
    refine wr_get hx hb hts in_Y hown hK hP (7 + 2 * i_2) (by omega) (xE_lay g ad L x hi_2) rfl 0 (by decide) (hts _ tw_79) rfl d_X_wet_17 ?_
    refine lv_iconst (v := 3) hx hb d_X_wet_20 (by decide) ?_
    refine wr_lald hx hb hK hP (8 + 2 * i_2) 0 (by omega) (xE_stk g ad L x hi_2) rfl 3 (by decide) (by omega) (by omega) d_X_wet_21 ?_
    exact W.lret hx hb hr (fun t ht hW => ⟨⟨_, (), rfl, by (try simp only [x_wet, q_1]); first | done | rfl, by dsimp only; rw [ht]; (try simp only [x_wet, q_1]); exact hP⟩, hS.F ht⟩) hS.2.2 d_X_wet_22
set_option maxHeartbeats 4000000 in
set_option maxRecDepth 100000 in
theorem c_X_warmth (l : Launch) (g : wG) (ad : Nat → Nat) {L : Nat} (hL : 1 ≤ L ∧ L ≤ 6) (x : xS) (a1 : Int32) : CtL l y_X_warmth ws_X_warmth ({ frames := 2, cells := 0, slots := 0, locals := 45 }) g (16 + 2 * L) ad (xE g ad L x) (xE g ad L x) [.ref (ad 0), .int a1] (x_warmth L x a1) := by
  intro sz
  refine Met.ofW (cc := b_X_warmth) (maxL := 3) (ret := (some .long)) (by decide +kernel) rfl ?_
  intro p e s m args below meth c s₁ B hml hv
  obtain ⟨rfl, hsz, hP, hK, hN, hJ⟩ := hv
  have hx := B.exec
  have hb := B.bytes
  have hr := B.returns
  have hts0 := atoms_spec (ws := ws_X_warmth) B.pre
  have hts : ∀ w ∈ tb, w.before _ s = true := fun w h => hts0 w (List.mem_cons_of_mem _ h)
  have hown : s.vm.findClass "HeapSteps" = some m.cls := findClass_of_methodNamed B.named
  have hlocks := B.notSynchronized
  subst hsz
  have hS : va_S (wA (16 + 2 * L) ad s.heap.size) s.heap s.heap [] := va_S.rf
  have hl := lv_entry ([.ref (ad 0), .int a1]) (n := 3) (Nat.le_of_ble_eq_true rfl)
  rw [lg_entry_eq]
  generalize (lg_sl ([.ref (ad 0), .int a1]) ++ List.replicate (3 - (lg_sl ([.ref (ad 0), .int a1])).length) Slot.unset).toArray = ls at hl ⊢
  have hl : lv_has ls 3 [(0, .ref (ad 0)), (1, .int a1)] := hl
  refine lv_aload_n hx hb d_X_warmth_0 rfl (lv_at hl 0 rfl) ?_
  refine lv_iload_n hx hb d_X_warmth_1 rfl (lv_at hl 1 rfl) ?_
  refine wc_q (va_runV (As := [.int a1]) (rest := []) ⟨hx, hb, hml, hown, hts⟩ (c_X_layerAt l g ad hL x a1 _) (cwV 1 hts (gd_V tw_155 tw_157 tw_0 tw_24 tw_158) rfl rfl rfl (by decide +kernel) ⟨Nat.le_of_ble_eq_true rfl, Nat.le_of_ble_eq_true rfl⟩) (wp_V hK hN hP hJ (0) (by omega) rfl rfl) rfl rfl hl.1 rfl (lv_room (Nat.le_of_ble_eq_true rfl)) d_X_warmth_2 ⟨Nat.zero_le _, Nat.zero_le _⟩) hS (fun H locs hP hS => ?_)
  rcases x_la_cases hL a1 with q_1 | ⟨i_2, hi_2, hni_2, q_1⟩
  · rw [q_1]
    refine W.eq (g2 := F0 m 5 ls [.null]) rfl ?_
    refine lv_astore_nN (lv' := [(2, .null), (0, .ref (ad 0)), (1, .int a1)]) hx hb d_X_warmth_5 rfl hl (by decide) rfl (fun ls hl => ?_)
    refine lv_aload_nN hx hb d_X_warmth_6 rfl (lv_at hl 0 rfl) ?_
    refine lv_ifnonnullN hx hb d_X_warmth_7 ?_
    refine lv_ldc2 (v := -1) hx hb hown (hts _ tw_289) d_X_warmth_10 ?_
    refine lv_goto (tgt := 20) hx hb d_X_warmth_13 (by decide) ?_
    exact W.lret hx hb hr (fun t ht hW => ⟨⟨_, (), rfl, by (try simp only [x_warmth, q_1]); first | done | rfl, by dsimp only; rw [ht]; (try simp only [x_warmth, q_1]); exact hP⟩, hS.F ht⟩) hS.2.2 d_X_warmth_20
  · rw [q_1]
    refine W.eq (g2 := F0 m 5 ls [.ref (ad (7 + 2 * i_2))]) rfl ?_
    refine lv_astore_n (lv' := [(2, .ref (ad (7 + 2 * i_2))), (0, .ref (ad 0)), (1, .int a1)]) hx hb d_X_warmth_5 rfl hl (by decide) rfl (fun ls hl => ?_)
    refine lv_aload_n hx hb d_X_warmth_6 rfl (lv_at hl 0 rfl) ?_
    refine lv_ifnonnull (tgt := 16) hx hb d_X_warmth_7 (by decide) ?_
    refine lv_aload_n hx hb d_X_warmth_16 rfl (lv_at hl 0 rfl) ?_
    refine wc_l (va_runV (As := []) (rest := []) ⟨hx, hb, hml, hown, hts⟩ (c_Y_warmthNow l g ad hL x hi_2 _) (cwV 0 hts (gd_V tw_219 tw_220 tw_221 tw_26 tw_222) rfl rfl rfl (by decide +kernel) ⟨Nat.le_of_ble_eq_true rfl, Nat.le_of_ble_eq_true rfl⟩) (wp_V hK hN hP hJ (7 + 2 * i_2) (by omega) (xE_lay g ad L x hi_2) rfl) rfl rfl hl.1 rfl (lv_room (Nat.le_of_ble_eq_true rfl)) d_X_warmth_17 ⟨Nat.zero_le _, Nat.zero_le _⟩) hS (fun H locs hP hS => ?_)
    exact W.lret hx hb hr (fun t ht hW => ⟨⟨_, (), rfl, by (try simp only [x_warmth, q_1]); first | done | rfl, by dsimp only; rw [ht]; (try simp only [x_warmth, q_1]); exact hP⟩, hS.F ht⟩) hS.2.2 d_X_warmth_20
set_option maxHeartbeats 4000000 in
set_option maxRecDepth 100000 in
theorem c_X_air (l : Launch) (g : wG) (ad : Nat → Nat) {L : Nat} (hL : 1 ≤ L ∧ L ≤ 6) (x : xS) : CtI l y_X_air ws_X_air ({ frames := 0, cells := 0, slots := 0, locals := 0 }) g (16 + 2 * L) ad (xE g ad L x) (xE g ad L x) [.ref (ad 0)] (xI x 8) := by
  intro sz
  refine Met.ofW (cc := b_X_air) (maxL := 1) (ret := (some .int)) (by decide +kernel) rfl ?_
  intro p e s m args below meth c s₁ B hml hv
  obtain ⟨rfl, hsz, hP, hK, hN, hJ⟩ := hv
  have hx := B.exec
  have hb := B.bytes
  have hr := B.returns
  have hts0 := atoms_spec (ws := ws_X_air) B.pre
  have hts : ∀ w ∈ tb, w.before _ s = true := fun w h => hts0 w (List.mem_cons_of_mem _ h)
  have hown : s.vm.findClass "HeapSteps" = some m.cls := findClass_of_methodNamed B.named
  have hlocks := B.notSynchronized
  subst hsz
  have hS : va_S (wA (16 + 2 * L) ad s.heap.size) s.heap s.heap [] := va_S.rf
  have hl := lv_entry ([.ref (ad 0)]) (n := 1) (Nat.le_of_ble_eq_true rfl)
  rw [lg_entry_eq]
  generalize (lg_sl ([.ref (ad 0)]) ++ List.replicate (1 - (lg_sl ([.ref (ad 0)])).length) Slot.unset).toArray = ls at hl ⊢
  have hl : lv_has ls 1 [(0, .ref (ad 0))] := hl
  refine lv_aload_n hx hb d_X_air_0 rfl (lv_at hl 0 rfl) ?_
  refine wr_get hx hb hts in_X hown hK hP (0) (by omega) rfl rfl 2 (by decide) (hts _ tw_118) rfl d_X_air_1 ?_
  refine wr_get hx hb hts in_F hown hK hP (2) (by omega) rfl rfl 5 (by decide) (hts _ tw_52) rfl d_X_air_4 ?_
  exact W.iret hx hb hr (fun t ht hW => ⟨⟨_, (), rfl, by skip; first | done | rfl, by dsimp only; rw [ht]; skip; exact hP⟩, hS.F ht⟩) hS.2.2 d_X_air_7
set_option maxHeartbeats 4000000 in
set_option maxRecDepth 100000 in
theorem c_X_gone (l : Launch) (g : wG) (ad : Nat → Nat) {L : Nat} (hL : 1 ≤ L ∧ L ≤ 6) (x : xS) (a1 : Int32) : CtL l y_X_gone ws_X_gone ({ frames := 1, cells := 0, slots := 0, locals := 22 }) g (16 + 2 * L) ad (xE g ad L x) (xE g ad L x) [.ref (ad 0), .int a1] (x_gone x a1) := by
  intro sz
  refine Met.ofW (cc := b_X_gone) (maxL := 2) (ret := (some .long)) (by decide +kernel) rfl ?_
  intro p e s m args below meth c s₁ B hml hv
  obtain ⟨rfl, hsz, hP, hK, hN, hJ⟩ := hv
  have hx := B.exec
  have hb := B.bytes
  have hr := B.returns
  have hts0 := atoms_spec (ws := ws_X_gone) B.pre
  have hts : ∀ w ∈ tb, w.before _ s = true := fun w h => hts0 w (List.mem_cons_of_mem _ h)
  have hown : s.vm.findClass "HeapSteps" = some m.cls := findClass_of_methodNamed B.named
  have hlocks := B.notSynchronized
  subst hsz
  have hS : va_S (wA (16 + 2 * L) ad s.heap.size) s.heap s.heap [] := va_S.rf
  have hl := lv_entry ([.ref (ad 0), .int a1]) (n := 2) (Nat.le_of_ble_eq_true rfl)
  rw [lg_entry_eq]
  generalize (lg_sl ([.ref (ad 0), .int a1]) ++ List.replicate (2 - (lg_sl ([.ref (ad 0), .int a1])).length) Slot.unset).toArray = ls at hl ⊢
  have hl : lv_has ls 2 [(0, .ref (ad 0)), (1, .int a1)] := hl
  refine lv_iload_n hx hb d_X_gone_0 rfl (lv_at hl 1 rfl) ?_
  refine lv_iconst (v := 0) hx hb d_X_gone_1 (by decide) ?_
  refine lv_bipush (v := 8) hx hb d_X_gone_2 (by decide) ?_
  refine wc_i (va_runS (As := [.int a1, .int 0, .int 8]) (rest := []) ⟨hx, hb, hml, hown, hts⟩ (c_X_within l g _ ad _ a1 0 8 _) (cwS 3 hts (gd_S tw_67 tw_68 tw_24 tw_69) rfl rfl rfl (by decide +kernel) ⟨Nat.le_of_ble_eq_true rfl, Nat.le_of_ble_eq_true rfl⟩) (wp_S hK hN hP hJ) rfl rfl hl.1 rfl (lv_room (Nat.le_of_ble_eq_true rfl)) d_X_gone_4 ⟨Nat.zero_le _, Nat.zero_le _⟩) hS (fun H locs hP hS => ?_)
  refine lv_if_eq (tgt := 19) hx hb d_X_gone_7 (by decide) (fun c_1 => ?_) (fun c_1 => ?_)
  · skip
    refine lv_ldc2 (v := -1) hx hb hown (hts _ tw_289) d_X_gone_19 ?_
    exact W.lret hx hb hr (fun t ht hW => ⟨⟨_, (), rfl, by (try simp only [x_gone, if_pos c_1]); first | done | rfl, by dsimp only; rw [ht]; (try simp only [x_gone, if_pos c_1]); exact hP⟩, hS.F ht⟩) hS.2.2 d_X_gone_22
  · skip
    obtain ⟨k, hk, rfl⟩ := x_within_nat (n := 8) (by decide) c_1
    refine lv_aload_n hx hb d_X_gone_10 rfl (lv_at hl 0 rfl) ?_
    refine wr_get hx hb hts in_X hown hK hP (0) (by omega) rfl rfl 3 (by decide) (hts _ tw_119) rfl d_X_gone_11 ?_
    refine lv_iload_n hx hb d_X_gone_14 rfl (lv_at hl 1 rfl) ?_
    refine wr_lald hx hb hK hP (3) 0 (by omega) rfl rfl k rfl (by omega) (by omega) d_X_gone_15 ?_
    refine lv_goto (tgt := 22) hx hb d_X_gone_16 (by decide) ?_
    exact W.lret hx hb hr (fun t ht hW => ⟨⟨_, (), rfl, by (try simp only [x_gone, if_neg c_1, nI_clamp (show k < 2 ^ 31 by omega)]); first | done | rfl, by dsimp only; rw [ht]; (try simp only [x_gone, if_neg c_1, nI_clamp (show k < 2 ^ 31 by omega)]); exact hP⟩, hS.F ht⟩) hS.2.2 d_X_gone_22
set_option maxHeartbeats 4000000 in
set_option maxRecDepth 100000 in
theorem c_X_balance (l : Launch) (g : wG) (ad : Nat → Nat) {L : Nat} (hL : 1 ≤ L ∧ L ≤ 6) (x : xS) (a1 : Int32) : CtL l y_X_balance ws_X_balance ({ frames := 2, cells := 0, slots := 0, locals := 48 }) g (16 + 2 * L) ad (xE g ad L x) (xE g ad L x) [.ref (ad 0), .int a1] (x_balance L x a1) := by
  intro sz
  refine Met.ofW (cc := b_X_balance) (maxL := 2) (ret := (some .long)) (by decide +kernel) rfl ?_
  intro p e s m args below meth c s₁ B hml hv
  obtain ⟨rfl, hsz, hP, hK, hN, hJ⟩ := hv
  have hx := B.exec
  have hb := B.bytes
  have hr := B.returns
  have hts0 := atoms_spec (ws := ws_X_balance) B.pre
  have hts : ∀ w ∈ tb, w.before _ s = true := fun w h => hts0 w (List.mem_cons_of_mem _ h)
  have hown : s.vm.findClass "HeapSteps" = some m.cls := findClass_of_methodNamed B.named
  have hlocks := B.notSynchronized
  subst hsz
  have hS : va_S (wA (16 + 2 * L) ad s.heap.size) s.heap s.heap [] := va_S.rf
  have hl := lv_entry ([.ref (ad 0), .int a1]) (n := 2) (Nat.le_of_ble_eq_true rfl)
  rw [lg_entry_eq]
  generalize (lg_sl ([.ref (ad 0), .int a1]) ++ List.replicate (2 - (lg_sl ([.ref (ad 0), .int a1])).length) Slot.unset).toArray = ls at hl ⊢
  have hl : lv_has ls 2 [(0, .ref (ad 0)), (1, .int a1)] := hl
  refine lv_iload_n hx hb d_X_balance_0 rfl (lv_at hl 1 rfl) ?_
  by_cases c_1 : a1 = 0
  · subst c_1
    refine lv_tableIn (off := 27) (tgt := 28) hx hb d_X_balance_1 (by decide) (by decide) rfl (by decide) ?_
    refine lv_aload_n hx hb d_X_balance_28 rfl (lv_at hl 0 rfl) ?_
    refine lv_iconst (v := 0) hx hb d_X_balance_29 (by decide) ?_
    refine wc_l (va_runV (As := [.int 0]) (rest := []) ⟨hx, hb, hml, hown, hts⟩ (c_X_putInLessThere l g ad hL x 0 (by omega) _) (cwV 1 hts (gd_V tw_322 tw_324 tw_11 tw_24 tw_325) rfl rfl rfl (by decide +kernel) ⟨Nat.le_of_ble_eq_true rfl, Nat.le_of_ble_eq_true rfl⟩) (wp_V hK hN hP hJ (0) (by omega) rfl rfl) rfl rfl hl.1 rfl (lv_room (Nat.le_of_ble_eq_true rfl)) d_X_balance_30 ⟨Nat.zero_le _, Nat.zero_le _⟩) hS (fun H locs hP hS => ?_)
    refine lv_aload_n hx hb d_X_balance_33 rfl (lv_at hl 0 rfl) ?_
    refine lv_iconst (v := 1) hx hb d_X_balance_34 (by decide) ?_
    refine wc_l (va_runV (As := [.int 1]) (rest := [.long (x_less L x 0)]) ⟨hx, hb, hml, hown, hts⟩ (c_X_putInLessThere l g ad hL x 1 (by omega) _) (cwV 1 hts (gd_V tw_322 tw_324 tw_11 tw_24 tw_325) rfl rfl rfl (by decide +kernel) ⟨Nat.le_of_ble_eq_true rfl, Nat.le_of_ble_eq_true rfl⟩) (wp_V hK hN hP hJ (0) (by omega) rfl rfl) rfl rfl hl.1 rfl (lv_room (Nat.le_of_ble_eq_true rfl)) d_X_balance_35 ⟨Nat.zero_le _, Nat.zero_le _⟩) hS (fun H locs hP hS => ?_)
    refine lv_ladd hx hb d_X_balance_38 ?_
    refine lv_aload_n hx hb d_X_balance_39 rfl (lv_at hl 0 rfl) ?_
    refine lv_iconst (v := 2) hx hb d_X_balance_40 (by decide) ?_
    refine wc_l (va_runV (As := [.int 2]) (rest := [.long ((x_less L x 0) + (x_less L x 1))]) ⟨hx, hb, hml, hown, hts⟩ (c_X_putInLessThere l g ad hL x 2 (by omega) _) (cwV 1 hts (gd_V tw_322 tw_324 tw_11 tw_24 tw_325) rfl rfl rfl (by decide +kernel) ⟨Nat.le_of_ble_eq_true rfl, Nat.le_of_ble_eq_true rfl⟩) (wp_V hK hN hP hJ (0) (by omega) rfl rfl) rfl rfl hl.1 rfl (lv_room (Nat.le_of_ble_eq_true rfl)) d_X_balance_41 ⟨Nat.zero_le _, Nat.zero_le _⟩) hS (fun H locs hP hS => ?_)
    refine lv_ladd hx hb d_X_balance_44 ?_
    refine lv_aload_n hx hb d_X_balance_45 rfl (lv_at hl 0 rfl) ?_
    refine wr_get hx hb hts in_X hown hK hP (0) (by omega) rfl rfl 3 (by decide) (hts _ tw_119) rfl d_X_balance_46 ?_
    refine lv_iconst (v := 0) hx hb d_X_balance_49 (by decide) ?_
    refine wr_lald hx hb hK hP (3) 0 (by omega) rfl rfl 0 (by decide) (by omega) (by omega) d_X_balance_50 ?_
    refine lv_lsub hx hb d_X_balance_51 ?_
    exact W.lret hx hb hr (fun t ht hW => ⟨⟨_, (), rfl, by (try simp only [x_balance, if_pos (show (0 : Int32) = 0 by decide)]); first | done | rfl, by dsimp only; rw [ht]; (try simp only [x_balance, if_pos (show (0 : Int32) = 0 by decide)]); exact hP⟩, hS.F ht⟩) hS.2.2 d_X_balance_52
  · skip
    by_cases c_2 : a1 = 1
    · subst c_2
      refine lv_tableIn (off := 52) (tgt := 53) hx hb d_X_balance_1 (by decide) (by decide) rfl (by decide) ?_
      refine lv_aload_n hx hb d_X_balance_53 rfl (lv_at hl 0 rfl) ?_
      refine lv_iconst (v := 3) hx hb d_X_balance_54 (by decide) ?_
      refine wc_l (va_runV (As := [.int 3]) (rest := []) ⟨hx, hb, hml, hown, hts⟩ (c_X_putInLessThere l g ad hL x 3 (by omega) _) (cwV 1 hts (gd_V tw_322 tw_324 tw_11 tw_24 tw_325) rfl rfl rfl (by decide +kernel) ⟨Nat.le_of_ble_eq_true rfl, Nat.le_of_ble_eq_true rfl⟩) (wp_V hK hN hP hJ (0) (by omega) rfl rfl) rfl rfl hl.1 rfl (lv_room (Nat.le_of_ble_eq_true rfl)) d_X_balance_55 ⟨Nat.zero_le _, Nat.zero_le _⟩) hS (fun H locs hP hS => ?_)
      refine lv_aload_n hx hb d_X_balance_58 rfl (lv_at hl 0 rfl) ?_
      refine wr_get hx hb hts in_X hown hK hP (0) (by omega) rfl rfl 3 (by decide) (hts _ tw_119) rfl d_X_balance_59 ?_
      refine lv_iconst (v := 3) hx hb d_X_balance_62 (by decide) ?_
      refine wr_lald hx hb hK hP (3) 0 (by omega) rfl rfl 3 (by decide) (by omega) (by omega) d_X_balance_63 ?_
      refine lv_ladd hx hb d_X_balance_64 ?_
      refine lv_aload_n hx hb d_X_balance_65 rfl (lv_at hl 0 rfl) ?_
      refine wr_get hx hb hts in_X hown hK hP (0) (by omega) rfl rfl 3 (by decide) (hts _ tw_119) rfl d_X_balance_66 ?_
      refine lv_bipush (v := 7) hx hb d_X_balance_69 (by decide) ?_
      refine wr_lald hx hb hK hP (3) 0 (by omega) rfl rfl 7 (by decide) (by omega) (by omega) d_X_balance_71 ?_
      refine lv_ladd hx hb d_X_balance_72 ?_
      refine lv_aload_n hx hb d_X_balance_73 rfl (lv_at hl 0 rfl) ?_
      refine wr_get hx hb hts in_X hown hK hP (0) (by omega) rfl rfl 3 (by decide) (hts _ tw_119) rfl d_X_balance_74 ?_
      refine lv_iconst (v := 1) hx hb d_X_balance_77 (by decide) ?_
      refine wr_lald hx hb hK hP (3) 0 (by omega) rfl rfl 1 (by decide) (by omega) (by omega) d_X_balance_78 ?_
      refine lv_lsub hx hb d_X_balance_79 ?_
      refine lv_aload_n hx hb d_X_balance_80 rfl (lv_at hl 0 rfl) ?_
      refine wr_get hx hb hts in_X hown hK hP (0) (by omega) rfl rfl 3 (by decide) (hts _ tw_119) rfl d_X_balance_81 ?_
      refine lv_iconst (v := 2) hx hb d_X_balance_84 (by decide) ?_
      refine wr_lald hx hb hK hP (3) 0 (by omega) rfl rfl 2 (by decide) (by omega) (by omega) d_X_balance_85 ?_
      refine lv_lsub hx hb d_X_balance_86 ?_
      exact W.lret hx hb hr (fun t ht hW => ⟨⟨_, (), rfl, by (try simp only [x_balance, if_neg (show ¬ (1 : Int32) = 0 by decide), if_pos (show (1 : Int32) = 1 by decide)]); first | done | rfl, by dsimp only; rw [ht]; (try simp only [x_balance, if_neg (show ¬ (1 : Int32) = 0 by decide), if_pos (show (1 : Int32) = 1 by decide)]); exact hP⟩, hS.F ht⟩) hS.2.2 d_X_balance_87
    · skip
      by_cases c_3 : a1 = 2
      · subst c_3
        refine lv_tableIn (off := 87) (tgt := 88) hx hb d_X_balance_1 (by decide) (by decide) rfl (by decide) ?_
        refine lv_aload_n hx hb d_X_balance_88 rfl (lv_at hl 0 rfl) ?_
        refine lv_iconst (v := 4) hx hb d_X_balance_89 (by decide) ?_
        refine wc_l (va_runV (As := [.int 4]) (rest := []) ⟨hx, hb, hml, hown, hts⟩ (c_X_putInLessThere l g ad hL x 4 (by omega) _) (cwV 1 hts (gd_V tw_322 tw_324 tw_11 tw_24 tw_325) rfl rfl rfl (by decide +kernel) ⟨Nat.le_of_ble_eq_true rfl, Nat.le_of_ble_eq_true rfl⟩) (wp_V hK hN hP hJ (0) (by omega) rfl rfl) rfl rfl hl.1 rfl (lv_room (Nat.le_of_ble_eq_true rfl)) d_X_balance_90 ⟨Nat.zero_le _, Nat.zero_le _⟩) hS (fun H locs hP hS => ?_)
        refine lv_aload_n hx hb d_X_balance_93 rfl (lv_at hl 0 rfl) ?_
        refine wr_get hx hb hts in_X hown hK hP (0) (by omega) rfl rfl 3 (by decide) (hts _ tw_119) rfl d_X_balance_94 ?_
        refine lv_iconst (v := 4) hx hb d_X_balance_97 (by decide) ?_
        refine wr_lald hx hb hK hP (3) 0 (by omega) rfl rfl 4 (by decide) (by omega) (by omega) d_X_balance_98 ?_
        refine lv_ladd hx hb d_X_balance_99 ?_
        refine lv_aload_n hx hb d_X_balance_100 rfl (lv_at hl 0 rfl) ?_
        refine wr_get hx hb hts in_X hown hK hP (0) (by omega) rfl rfl 3 (by decide) (hts _ tw_119) rfl d_X_balance_101 ?_
        refine lv_iconst (v := 5) hx hb d_X_balance_104 (by decide) ?_
        refine wr_lald hx hb hK hP (3) 0 (by omega) rfl rfl 5 (by decide) (by omega) (by omega) d_X_balance_105 ?_
        refine lv_lsub hx hb d_X_balance_106 ?_
        refine lv_aload_n hx hb d_X_balance_107 rfl (lv_at hl 0 rfl) ?_
        refine wr_get hx hb hts in_X hown hK hP (0) (by omega) rfl rfl 3 (by decide) (hts _ tw_119) rfl d_X_balance_108 ?_
        refine lv_bipush (v := 6) hx hb d_X_balance_111 (by decide) ?_
        refine wr_lald hx hb hK hP (3) 0 (by omega) rfl rfl 6 (by decide) (by omega) (by omega) d_X_balance_113 ?_
        refine lv_lsub hx hb d_X_balance_114 ?_
        exact W.lret hx hb hr (fun t ht hW => ⟨⟨_, (), rfl, by (try simp only [x_balance, if_neg (show ¬ (2 : Int32) = 0 by decide), if_neg (show ¬ (2 : Int32) = 1 by decide), if_pos (show (2 : Int32) = 2 by decide)]); first | done | rfl, by dsimp only; rw [ht]; (try simp only [x_balance, if_neg (show ¬ (2 : Int32) = 0 by decide), if_neg (show ¬ (2 : Int32) = 1 by decide), if_pos (show (2 : Int32) = 2 by decide)]); exact hP⟩, hS.F ht⟩) hS.2.2 d_X_balance_115
      · skip
        refine lv_tableOut (tgt := 116) hx hb d_X_balance_1 (tab_out3 c_1 c_2 c_3) (by decide) ?_
        refine lv_ldc2 (v := -1) hx hb hown (hts _ tw_289) d_X_balance_116 ?_
        exact W.lret hx hb hr (fun t ht hW => ⟨⟨_, (), rfl, by (try simp only [x_balance, if_neg c_1, if_neg c_2, if_neg c_3]); first | done | rfl, by dsimp only; rw [ht]; (try simp only [x_balance, if_neg c_1, if_neg c_2, if_neg c_3]); exact hP⟩, hS.F ht⟩) hS.2.2 d_X_balance_119
end
section
set_option maxHeartbeats 4000000 in
set_option maxRecDepth 100000 in
theorem c_X_pour (l : Launch) (g : wG) (ad : Nat → Nat) {L : Nat} (hL : 1 ≤ L ∧ L ≤ 6) (x : xS) (a1 : Int64) (a2 : Int32) : CtV l y_X_pour ws_X_pour ({ frames := 2, cells := 0, slots := 0, locals := 43 }) g (16 + 2 * L) ad (xE g ad L x) (xE g ad L (x_pour L x a1 a2)) [.ref (ad 0), .long a1, .int a2] := by
  intro sz
  refine Met.ofW (cc := b_X_pour) (maxL := 5) (ret := none) (by decide +kernel) rfl ?_
  intro p e s m args below meth c s₁ B hml hv
  obtain ⟨rfl, hsz, hP, hK, hN, hJ⟩ := hv
  have hx := B.exec
  have hb := B.bytes
  have hr := B.returns
  have hts0 := atoms_spec (ws := ws_X_pour) B.pre
  have hts : ∀ w ∈ tb, w.before _ s = true := fun w h => hts0 w (List.mem_cons_of_mem _ h)
  have hown : s.vm.findClass "HeapSteps" = some m.cls := findClass_of_methodNamed B.named
  have hlocks := B.notSynchronized
  subst hsz
  have hS : va_S (wA (16 + 2 * L) ad s.heap.size) s.heap s.heap [] := va_S.rf
  have hl := lv_entry ([.ref (ad 0), .long a1, .int a2]) (n := 5) (Nat.le_of_ble_eq_true rfl)
  rw [lg_entry_eq]
  generalize (lg_sl ([.ref (ad 0), .long a1, .int a2]) ++ List.replicate (5 - (lg_sl ([.ref (ad 0), .long a1, .int a2])).length) Slot.unset).toArray = ls at hl ⊢
  have hl : lv_has ls 5 [(0, .ref (ad 0)), (1, .long a1), (3, .int a2)] := hl
  refine lv_aload_n hx hb d_X_pour_0 rfl (lv_at hl 0 rfl) ?_
  refine lv_iload_n hx hb d_X_pour_1 rfl (lv_at hl 2 rfl) ?_
  refine wc_q (va_runV (As := [.int a2]) (rest := []) ⟨hx, hb, hml, hown, hts⟩ (c_X_layerAt l g ad hL x a2 _) (cwV 1 hts (gd_V tw_155 tw_157 tw_0 tw_24 tw_158) rfl rfl rfl (by decide +kernel) ⟨Nat.le_of_ble_eq_true rfl, Nat.le_of_ble_eq_true rfl⟩) (wp_V hK hN hP hJ (0) (by omega) rfl rfl) rfl rfl hl.1 rfl (lv_room (Nat.le_of_ble_eq_true rfl)) d_X_pour_2 ⟨Nat.zero_le _, Nat.zero_le _⟩) hS (fun H locs hP hS => ?_)
  rcases x_la_cases hL a2 with q_1 | ⟨i_2, hi_2, hni_2, q_1⟩
  · rw [q_1]
    refine W.eq (g2 := F0 m 5 ls [.null]) rfl ?_
    refine lv_astoreN (lv' := [(4, .null), (0, .ref (ad 0)), (1, .long a1), (3, .int a2)]) hx hb d_X_pour_5 hl (by decide) rfl (fun ls hl => ?_)
    refine lv_aloadN hx hb d_X_pour_7 (lv_at hl 0 rfl) ?_
    refine lv_ifnonnullN hx hb d_X_pour_9 ?_
    refine lv_aload_n hx hb d_X_pour_12 rfl (lv_at hl 1 rfl) ?_
    refine wr_get hx hb hts in_X hown hK hP (0) (by omega) rfl rfl 3 (by decide) (hts _ tw_119) rfl d_X_pour_13 ?_
    refine lv_iconst (v := 2) hx hb d_X_pour_16 (by decide) ?_
    refine lv_dup2_11 hx hb d_X_pour_17 rfl rfl ?_
    refine wr_lald hx hb hK hP (3) 0 (by omega) rfl rfl 2 (by decide) (by omega) (by omega) d_X_pour_18 ?_
    refine lv_lload_n hx hb d_X_pour_19 rfl (lv_at hl 2 rfl) ?_
    refine lv_ladd hx hb d_X_pour_20 ?_
    obtain ⟨x_3, ex_3⟩ : ∃ z9, z9 = xO' x 0 2 ((xO x 0 2) + a1) := ⟨_, rfl⟩
    refine wr_last (E' := xE g ad L x_3) hx hb hK hP hJ hS (3) 0 (by omega) rfl rfl 2 (by decide) (by omega) (by omega) (by rw [ex_3]; exact xU_O g ad L x 0 2 (by decide) ((xO x 0 2) + a1)) d_X_pour_21 (fun H locs hP hS => ?_)
    refine lv_goto (tgt := 36) hx hb d_X_pour_22 (by decide) ?_
    subst ex_3
    exact W.vret hx hb hr (fun t ht hW => ⟨⟨(), rfl, trivial, by dsimp only; rw [ht]; (try simp only [x_pour, q_1]); exact hP⟩, hS.F ht⟩) hS.2.2 d_X_pour_36
  · rw [q_1]
    refine W.eq (g2 := F0 m 5 ls [.ref (ad (7 + 2 * i_2))]) rfl ?_
    refine lv_astore (lv' := [(4, .ref (ad (7 + 2 * i_2))), (0, .ref (ad 0)), (1, .long a1), (3, .int a2)]) hx hb d_X_pour_5 hl (by decide) rfl (fun ls hl => ?_)
    refine lv_aload hx hb d_X_pour_7 (lv_at hl 0 rfl) ?_
    refine lv_ifnonnull (tgt := 25) hx hb d_X_pour_9 (by decide) ?_
    refine lv_aload hx hb d_X_pour_25 (lv_at hl 0 rfl) ?_
    refine wr_get hx hb hts in_Y hown hK hP (7 + 2 * i_2) (by omega) (xE_lay g ad L x hi_2) rfl 0 (by decide) (hts _ tw_79) rfl d_X_pour_27 ?_
    refine lv_iconst (v := 3) hx hb d_X_pour_30 (by decide) ?_
    refine lv_dup2_11 hx hb d_X_pour_31 rfl rfl ?_
    refine wr_lald hx hb hK hP (8 + 2 * i_2) 0 (by omega) (xE_stk g ad L x hi_2) rfl 3 (by decide) (by omega) (by omega) d_X_pour_32 ?_
    refine lv_lload_n hx hb d_X_pour_33 rfl (lv_at hl 2 rfl) ?_
    refine lv_ladd hx hb d_X_pour_34 ?_
    obtain ⟨x_4, ex_4⟩ : ∃ z9, z9 = xT' x i_2 3 ((xT x i_2 3) + a1) := ⟨_, rfl⟩
    refine wr_last (E' := xE g ad L x_4) hx hb hK hP hJ hS (8 + 2 * i_2) 0 (by omega) (xE_stk g ad L x hi_2) rfl 3 (by decide) (by omega) (by omega) (by rw [ex_4]; exact xU_T g ad L x hi_2 3 ((xT x i_2 3) + a1)) d_X_pour_35 (fun H locs hP hS => ?_)
    subst ex_4
    exact W.vret hx hb hr (fun t ht hW => ⟨⟨(), rfl, trivial, by dsimp only; rw [ht]; (try simp only [x_pour, q_1]); exact hP⟩, hS.F ht⟩) hS.2.2 d_X_pour_36
set_option maxHeartbeats 4000000 in
set_option maxRecDepth 100000 in
theorem c_X_breakPart (l : Launch) (g : wG) (ad : Nat → Nat) {L : Nat} (hL : 1 ≤ L ∧ L ≤ 6) (x : xS) (hrow : x_rows x) {i : Nat} (hi : i < L) (k : Nat) (hk : k < 3) (a3 : Int64) : CtV l y_X_breakPart ws_X_breakPart ({ frames := 1, cells := 0, slots := 0, locals := 24 }) g (16 + 2 * L) ad (xE g ad L x) (xE g ad L (x_breakPart x i k a3)) [.ref (ad 0), .ref (ad (7 + 2 * i)), .int (nI k), .long a3] := by
  intro sz
  refine Met.ofW (cc := b_X_breakPart) (maxL := 12) (ret := none) (by decide +kernel) rfl ?_
  intro p e s m args below meth c s₁ B hml hv
  obtain ⟨rfl, hsz, hP, hK, hN, hJ⟩ := hv
  have hx := B.exec
  have hb := B.bytes
  have hr := B.returns
  have hts0 := atoms_spec (ws := ws_X_breakPart) B.pre
  have hts : ∀ w ∈ tb, w.before _ s = true := fun w h => hts0 w (List.mem_cons_of_mem _ h)
  have hown : s.vm.findClass "HeapSteps" = some m.cls := findClass_of_methodNamed B.named
  have hlocks := B.notSynchronized
  subst hsz
  have hS : va_S (wA (16 + 2 * L) ad s.heap.size) s.heap s.heap [] := va_S.rf
  have hl := lv_entry ([.ref (ad 0), .ref (ad (7 + 2 * i)), .int (nI k), .long a3]) (n := 12) (Nat.le_of_ble_eq_true rfl)
  rw [lg_entry_eq]
  generalize (lg_sl ([.ref (ad 0), .ref (ad (7 + 2 * i)), .int (nI k), .long a3]) ++ List.replicate (12 - (lg_sl ([.ref (ad 0), .ref (ad (7 + 2 * i)), .int (nI k), .long a3])).length) Slot.unset).toArray = ls at hl ⊢
  have hl : lv_has ls 12 [(0, .ref (ad 0)), (1, .ref (ad (7 + 2 * i))), (2, .int (nI k)), (3, .long a3)] := hl
  refine lv_aload_n hx hb d_X_breakPart_0 rfl (lv_at hl 0 rfl) ?_
  refine wr_get hx hb hts in_X hown hK hP (0) (by omega) rfl rfl 1 (by decide) (hts _ tw_117) rfl d_X_breakPart_1 ?_
  refine lv_iload_n hx hb d_X_breakPart_4 rfl (lv_at hl 2 rfl) ?_
  refine wr_aldq hx hb hK hP (1) 3 (by omega) rfl rfl k rfl (by omega) (by omega) (v := ad (7 + 2 * L + 3 * k)) (if_pos (by omega)) d_X_breakPart_5 ?_
  refine lv_astore (lv' := [(5, .ref (ad (7 + 2 * L + 3 * k))), (0, .ref (ad 0)), (1, .ref (ad (7 + 2 * i))), (2, .int (nI k)), (3, .long a3)]) hx hb d_X_breakPart_6 hl (by decide) rfl (fun ls hl => ?_)
  refine lv_aload_n hx hb d_X_breakPart_8 rfl (lv_at hl 2 rfl) ?_
  refine wr_get hx hb hts in_Y hown hK hP (7 + 2 * i) (by omega) (xE_lay g ad L x hi) rfl 0 (by decide) (hts _ tw_79) rfl d_X_breakPart_9 ?_
  refine lv_iload_n hx hb d_X_breakPart_12 rfl (lv_at hl 3 rfl) ?_
  refine wr_lald hx hb hK hP (8 + 2 * i) 0 (by omega) (xE_stk g ad L x hi) rfl k rfl (by omega) (by omega) d_X_breakPart_13 ?_
  refine lv_aload hx hb d_X_breakPart_14 (lv_at hl 0 rfl) ?_
  refine lv_lload_n hx hb d_X_breakPart_16 rfl (lv_at hl 4 rfl) ?_
  refine wc_i (va_runV (As := [.long a3]) (rest := [.long (xT x i k)]) ⟨hx, hb, hml, hown, hts⟩ (c_K_millionthsAt l g ad hL x k (by omega) (hrow k (by omega)) a3 _) (cwV 1 hts (gd_V tw_246 tw_247 tw_248 tw_27 tw_249) rfl rfl rfl (by decide +kernel) ⟨Nat.le_of_ble_eq_true rfl, Nat.le_of_ble_eq_true rfl⟩) (wp_V hK hN hP hJ (7 + 2 * L + 3 * k) (by omega) (xE_kind g ad L x k) rfl) rfl rfl hl.1 rfl (lv_room (Nat.le_of_ble_eq_true rfl)) d_X_breakPart_17 ⟨Nat.zero_le _, Nat.zero_le _⟩) hS (fun H locs hP hS => ?_)
  refine lv_i2l hx hb d_X_breakPart_20 rfl ?_
  refine wc_l (va_runS (As := [.long (xT x i k), .long (Int32.toInt64 (x_mAt x k a3))]) (rest := []) ⟨hx, hb, hml, hown, hts⟩ (c_X_millionthsOf l g _ ad _ (xT x i k) (Int32.toInt64 (x_mAt x k a3)) _) (cwS 2 hts (gd_S tw_250 tw_251 tw_24 tw_252) rfl rfl rfl (by decide +kernel) ⟨Nat.le_of_ble_eq_true rfl, Nat.le_of_ble_eq_true rfl⟩) (wp_S hK hN hP hJ) rfl rfl hl.1 rfl (lv_room (Nat.le_of_ble_eq_true rfl)) d_X_breakPart_21 ⟨Nat.zero_le _, Nat.zero_le _⟩) hS (fun H locs hP hS => ?_)
  refine lv_topl (fun v_1 ev_1 => ?_)
  refine lv_lstore (lv' := [(6, .long v_1), (5, .ref (ad (7 + 2 * L + 3 * k))), (0, .ref (ad 0)), (1, .ref (ad (7 + 2 * i))), (2, .int (nI k)), (3, .long a3)]) hx hb d_X_breakPart_24 hl (by decide) rfl (fun ls hl => ?_)
  refine lv_lload hx hb d_X_breakPart_26 (lv_at hl 0 rfl) ?_
  refine lv_aload hx hb d_X_breakPart_28 (lv_at hl 1 rfl) ?_
  refine wr_get hx hb hts in_K hown hK hP (7 + 2 * L + 3 * k) (by omega) (xE_kind g ad L x k) rfl 3 (by decide) (hts _ tw_101) rfl d_X_breakPart_30 ?_
  refine lv_i2l hx hb d_X_breakPart_33 rfl ?_
  refine lv_lmul hx hb d_X_breakPart_34 ?_
  refine lv_topl (fun v_2 ev_2 => ?_)
  refine lv_lstore (lv' := [(8, .long v_2), (6, .long v_1), (5, .ref (ad (7 + 2 * L + 3 * k))), (0, .ref (ad 0)), (1, .ref (ad (7 + 2 * i))), (2, .int (nI k)), (3, .long a3)]) hx hb d_X_breakPart_35 hl (by decide) rfl (fun ls hl => ?_)
  refine lv_lload hx hb d_X_breakPart_37 (lv_at hl 1 rfl) ?_
  refine lv_aload hx hb d_X_breakPart_39 (lv_at hl 2 rfl) ?_
  refine wr_get hx hb hts in_K hown hK hP (7 + 2 * L + 3 * k) (by omega) (xE_kind g ad L x k) rfl 4 (by decide) (hts _ tw_103) rfl d_X_breakPart_41 ?_
  refine lv_i2l hx hb d_X_breakPart_44 rfl ?_
  refine lv_lmul hx hb d_X_breakPart_45 ?_
  refine lv_ldc2 (v := 1000) hx hb hown (hts _ tw_254) d_X_breakPart_46 ?_
  refine lv_ldiv hx hb d_X_breakPart_49 (by decide) ?_
  refine lv_topl (fun v_3 ev_3 => ?_)
  refine lv_lstore (lv' := [(10, .long v_3), (8, .long v_2), (6, .long v_1), (5, .ref (ad (7 + 2 * L + 3 * k))), (0, .ref (ad 0)), (1, .ref (ad (7 + 2 * i))), (2, .int (nI k)), (3, .long a3)]) hx hb d_X_breakPart_50 hl (by decide) rfl (fun ls hl => ?_)
  refine lv_aload_n hx hb d_X_breakPart_52 rfl (lv_at hl 5 rfl) ?_
  refine wr_get hx hb hts in_Y hown hK hP (7 + 2 * i) (by omega) (xE_lay g ad L x hi) rfl 0 (by decide) (hts _ tw_79) rfl d_X_breakPart_53 ?_
  refine lv_iload_n hx hb d_X_breakPart_56 rfl (lv_at hl 6 rfl) ?_
  refine lv_dup2_11 hx hb d_X_breakPart_57 rfl rfl ?_
  refine wr_lald hx hb hK hP (8 + 2 * i) 0 (by omega) (xE_stk g ad L x hi) rfl k rfl (by omega) (by omega) d_X_breakPart_58 ?_
  refine lv_lload hx hb d_X_breakPart_59 (lv_at hl 2 rfl) ?_
  refine lv_lsub hx hb d_X_breakPart_61 ?_
  obtain ⟨x_4, ex_4⟩ : ∃ z9, z9 = xT' x i k ((xT x i k) - v_1) := ⟨_, rfl⟩
  refine wr_last (E' := xE g ad L x_4) hx hb hK hP hJ hS (8 + 2 * i) 0 (by omega) (xE_stk g ad L x hi) rfl k rfl (by omega) (by omega) (by rw [ex_4]; exact xU_T g ad L x hi k ((xT x i k) - v_1)) d_X_breakPart_62 (fun H locs hP hS => ?_)
  refine lv_aload_n hx hb d_X_breakPart_63 rfl (lv_at hl 5 rfl) ?_
  refine wr_get hx hb hts in_Y hown hK hP (7 + 2 * i) (by omega) (xE_lay g ad L x_4 hi) rfl 0 (by decide) (hts _ tw_79) rfl d_X_breakPart_64 ?_
  refine lv_iconst (v := 4) hx hb d_X_breakPart_67 (by decide) ?_
  refine lv_dup2_11 hx hb d_X_breakPart_68 rfl rfl ?_
  refine wr_lald hx hb hK hP (8 + 2 * i) 0 (by omega) (xE_stk g ad L x_4 hi) rfl 4 (by decide) (by omega) (by omega) d_X_breakPart_69 ?_
  refine lv_lload hx hb d_X_breakPart_70 (lv_at hl 1 rfl) ?_
  refine lv_ladd hx hb d_X_breakPart_72 ?_
  obtain ⟨x_5, ex_5⟩ : ∃ z9, z9 = xT' x_4 i 4 ((xT x_4 i 4) + v_2) := ⟨_, rfl⟩
  refine wr_last (E' := xE g ad L x_5) hx hb hK hP hJ hS (8 + 2 * i) 0 (by omega) (xE_stk g ad L x_4 hi) rfl 4 (by decide) (by omega) (by omega) (by rw [ex_5]; exact xU_T g ad L x_4 hi 4 ((xT x_4 i 4) + v_2)) d_X_breakPart_73 (fun H locs hP hS => ?_)
  refine lv_aload_n hx hb d_X_breakPart_74 rfl (lv_at hl 5 rfl) ?_
  refine wr_get hx hb hts in_Y hown hK hP (7 + 2 * i) (by omega) (xE_lay g ad L x_5 hi) rfl 0 (by decide) (hts _ tw_79) rfl d_X_breakPart_75 ?_
  refine lv_iconst (v := 3) hx hb d_X_breakPart_78 (by decide) ?_
  refine lv_dup2_11 hx hb d_X_breakPart_79 rfl rfl ?_
  refine wr_lald hx hb hK hP (8 + 2 * i) 0 (by omega) (xE_stk g ad L x_5 hi) rfl 3 (by decide) (by omega) (by omega) d_X_breakPart_80 ?_
  refine lv_lload hx hb d_X_breakPart_81 (lv_at hl 0 rfl) ?_
  refine lv_ladd hx hb d_X_breakPart_83 ?_
  obtain ⟨x_6, ex_6⟩ : ∃ z9, z9 = xT' x_5 i 3 ((xT x_5 i 3) + v_3) := ⟨_, rfl⟩
  refine wr_last (E' := xE g ad L x_6) hx hb hK hP hJ hS (8 + 2 * i) 0 (by omega) (xE_stk g ad L x_5 hi) rfl 3 (by decide) (by omega) (by omega) (by rw [ex_6]; exact xU_T g ad L x_5 hi 3 ((xT x_5 i 3) + v_3)) d_X_breakPart_84 (fun H locs hP hS => ?_)
  refine lv_aload_n hx hb d_X_breakPart_85 rfl (lv_at hl 4 rfl) ?_
  refine wr_get hx hb hts in_X hown hK hP (0) (by omega) rfl rfl 3 (by decide) (hts _ tw_119) rfl d_X_breakPart_86 ?_
  refine lv_iconst (v := 0) hx hb d_X_breakPart_89 (by decide) ?_
  refine lv_dup2_11 hx hb d_X_breakPart_90 rfl rfl ?_
  refine wr_lald hx hb hK hP (3) 0 (by omega) rfl rfl 0 (by decide) (by omega) (by omega) d_X_breakPart_91 ?_
  refine lv_lload hx hb d_X_breakPart_92 (lv_at hl 2 rfl) ?_
  refine lv_ladd hx hb d_X_breakPart_94 ?_
  obtain ⟨x_7, ex_7⟩ : ∃ z9, z9 = xO' x_6 0 0 ((xO x_6 0 0) + v_1) := ⟨_, rfl⟩
  refine wr_last (E' := xE g ad L x_7) hx hb hK hP hJ hS (3) 0 (by omega) rfl rfl 0 (by decide) (by omega) (by omega) (by rw [ex_7]; exact xU_O g ad L x_6 0 0 (by decide) ((xO x_6 0 0) + v_1)) d_X_breakPart_95 (fun H locs hP hS => ?_)
  refine lv_aload_n hx hb d_X_breakPart_96 rfl (lv_at hl 4 rfl) ?_
  refine wr_get hx hb hts in_X hown hK hP (0) (by omega) rfl rfl 3 (by decide) (hts _ tw_119) rfl d_X_breakPart_97 ?_
  refine lv_iconst (v := 4) hx hb d_X_breakPart_100 (by decide) ?_
  refine lv_dup2_11 hx hb d_X_breakPart_101 rfl rfl ?_
  refine wr_lald hx hb hK hP (3) 0 (by omega) rfl rfl 4 (by decide) (by omega) (by omega) d_X_breakPart_102 ?_
  refine lv_lload hx hb d_X_breakPart_103 (lv_at hl 1 rfl) ?_
  refine lv_ladd hx hb d_X_breakPart_105 ?_
  obtain ⟨x_8, ex_8⟩ : ∃ z9, z9 = xO' x_7 0 4 ((xO x_7 0 4) + v_2) := ⟨_, rfl⟩
  refine wr_last (E' := xE g ad L x_8) hx hb hK hP hJ hS (3) 0 (by omega) rfl rfl 4 (by decide) (by omega) (by omega) (by rw [ex_8]; exact xU_O g ad L x_7 0 4 (by decide) ((xO x_7 0 4) + v_2)) d_X_breakPart_106 (fun H locs hP hS => ?_)
  refine lv_aload_n hx hb d_X_breakPart_107 rfl (lv_at hl 4 rfl) ?_
  refine wr_get hx hb hts in_X hown hK hP (0) (by omega) rfl rfl 3 (by decide) (hts _ tw_119) rfl d_X_breakPart_108 ?_
  refine lv_bipush (v := 7) hx hb d_X_breakPart_111 (by decide) ?_
  refine lv_dup2_11 hx hb d_X_breakPart_113 rfl rfl ?_
  refine wr_lald hx hb hK hP (3) 0 (by omega) rfl rfl 7 (by decide) (by omega) (by omega) d_X_breakPart_114 ?_
  refine lv_lload hx hb d_X_breakPart_115 (lv_at hl 0 rfl) ?_
  refine lv_ladd hx hb d_X_breakPart_117 ?_
  obtain ⟨x_9, ex_9⟩ : ∃ z9, z9 = xO' x_8 0 7 ((xO x_8 0 7) + v_3) := ⟨_, rfl⟩
  refine wr_last (E' := xE g ad L x_9) hx hb hK hP hJ hS (3) 0 (by omega) rfl rfl 7 (by decide) (by omega) (by omega) (by rw [ex_9]; exact xU_O g ad L x_8 0 7 (by decide) ((xO x_8 0 7) + v_3)) d_X_breakPart_118 (fun H locs hP hS => ?_)
  subst ev_1
  subst ev_2
  subst ev_3
  subst ex_4
  subst ex_5
  subst ex_6
  subst ex_7
  subst ex_8
  subst ex_9
  exact W.vret hx hb hr (fun t ht hW => ⟨⟨(), rfl, trivial, by dsimp only; rw [ht]; (try simp only [x_breakPart]); exact hP⟩, hS.F ht⟩) hS.2.2 d_X_breakPart_119
set_option maxHeartbeats 4000000 in
set_option maxRecDepth 100000 in
theorem c_X_breakParts (l : Launch) (g : wG) (ad : Nat → Nat) {L : Nat} (hL : 1 ≤ L ∧ L ≤ 6) (x : xS) (hrow : x_rows x) {i : Nat} (hi : i < L) : CtV l y_X_breakParts ws_X_breakParts ({ frames := 2, cells := 0, slots := 0, locals := 55 }) g (16 + 2 * L) ad (xE g ad L x) (xE g ad L (x_break x i)) [.ref (ad 0), .ref (ad (7 + 2 * i))] := by
  intro sz
  refine Met.ofW (cc := b_X_breakParts) (maxL := 5) (ret := none) (by decide +kernel) rfl ?_
  intro p e s m args below meth c s₁ B hml hv
  obtain ⟨rfl, hsz, hP, hK, hN, hJ⟩ := hv
  have hx := B.exec
  have hb := B.bytes
  have hr := B.returns
  have hts0 := atoms_spec (ws := ws_X_breakParts) B.pre
  have hts : ∀ w ∈ tb, w.before _ s = true := fun w h => hts0 w (List.mem_cons_of_mem _ h)
  have hown : s.vm.findClass "HeapSteps" = some m.cls := findClass_of_methodNamed B.named
  have hlocks := B.notSynchronized
  subst hsz
  have hS : va_S (wA (16 + 2 * L) ad s.heap.size) s.heap s.heap [] := va_S.rf
  have hl := lv_entry ([.ref (ad 0), .ref (ad (7 + 2 * i))]) (n := 5) (Nat.le_of_ble_eq_true rfl)
  rw [lg_entry_eq]
  generalize (lg_sl ([.ref (ad 0), .ref (ad (7 + 2 * i))]) ++ List.replicate (5 - (lg_sl ([.ref (ad 0), .ref (ad (7 + 2 * i))])).length) Slot.unset).toArray = ls at hl ⊢
  have hl : lv_has ls 5 [(0, .ref (ad 0)), (1, .ref (ad (7 + 2 * i)))] := hl
  refine lv_aload_n hx hb d_X_breakParts_0 rfl (lv_at hl 1 rfl) ?_
  refine wr_get hx hb hts in_Y hown hK hP (7 + 2 * i) (by omega) (xE_lay g ad L x hi) rfl 0 (by decide) (hts _ tw_79) rfl d_X_breakParts_1 ?_
  refine lv_iconst (v := 3) hx hb d_X_breakParts_4 (by decide) ?_
  refine wr_lald hx hb hK hP (8 + 2 * i) 0 (by omega) (xE_stk g ad L x hi) rfl 3 (by decide) (by omega) (by omega) d_X_breakParts_5 ?_
  refine lv_aload_n hx hb d_X_breakParts_6 rfl (lv_at hl 1 rfl) ?_
  refine wr_get hx hb hts in_Y hown hK hP (7 + 2 * i) (by omega) (xE_lay g ad L x hi) rfl 1 (by decide) (hts _ tw_81) rfl d_X_breakParts_7 ?_
  refine lv_i2l hx hb d_X_breakParts_10 rfl ?_
  refine W.lcmp hx hb d_X_breakParts_11 ?_
  refine lv_if_ge (tgt := 16) hx hb d_X_breakParts_12 (by decide) (fun c_1 => ?_) (fun c_1 => ?_)
  · skip
    refine lv_aload_n hx hb d_X_breakParts_16 rfl (lv_at hl 1 rfl) ?_
    refine wc_l (va_runV (As := []) (rest := []) ⟨hx, hb, hml, hown, hts⟩ (c_Y_warmthNow l g ad hL x hi _) (cwV 0 hts (gd_V tw_219 tw_220 tw_221 tw_26 tw_222) rfl rfl rfl (by decide +kernel) ⟨Nat.le_of_ble_eq_true rfl, Nat.le_of_ble_eq_true rfl⟩) (wp_V hK hN hP hJ (7 + 2 * i) (by omega) (xE_lay g ad L x hi) rfl) rfl rfl hl.1 rfl (lv_room (Nat.le_of_ble_eq_true rfl)) d_X_breakParts_17 ⟨Nat.zero_le _, Nat.zero_le _⟩) hS (fun H locs hP hS => ?_)
    refine lv_topl (fun v_2 ev_2 => ?_)
    refine lv_lstore_n (lv' := [(2, .long v_2), (0, .ref (ad 0)), (1, .ref (ad (7 + 2 * i)))]) hx hb d_X_breakParts_20 rfl hl (by decide) rfl (fun ls hl => ?_)
    refine lv_iconst (v := 0) hx hb d_X_breakParts_21 (by decide) ?_
    refine lv_istore (lv' := [(4, .int 0), (2, .long v_2), (0, .ref (ad 0)), (1, .ref (ad (7 + 2 * i)))]) hx hb d_X_breakParts_22 hl (by decide) rfl (fun ls hl => ?_)
    refine lv_iload hx hb d_X_breakParts_24 (lv_at hl 0 rfl) ?_
    refine lv_iconst (v := 3) hx hb d_X_breakParts_26 (by decide) ?_
    refine lv_icmp_ge (tgt := 44) hx hb d_X_breakParts_27 (by decide) (fun c_3 => absurd c_3 (by decide)) (fun c_3 => ?_)
    refine lv_aload_n hx hb d_X_breakParts_30 rfl (lv_at hl 2 rfl) ?_
    refine lv_aload_n hx hb d_X_breakParts_31 rfl (lv_at hl 3 rfl) ?_
    refine lv_iload hx hb d_X_breakParts_32 (lv_at hl 0 rfl) ?_
    refine lv_lload_n hx hb d_X_breakParts_34 rfl (lv_at hl 1 rfl) ?_
    refine wc_v (va_runV (As := [.ref (ad (7 + 2 * i)), .int 0, .long v_2]) (rest := []) ⟨hx, hb, hml, hown, hts⟩ (c_X_breakPart l g ad hL x hrow hi 0 (by omega) v_2 _) (cwV 3 hts (gd_V tw_242 tw_244 tw_6 tw_24 tw_245) rfl rfl rfl (by decide +kernel) ⟨Nat.le_of_ble_eq_true rfl, Nat.le_of_ble_eq_true rfl⟩) (wp_V hK hN hP hJ (0) (by omega) rfl rfl) rfl rfl hl.1 rfl (lv_room (Nat.le_of_ble_eq_true rfl)) d_X_breakParts_35 ⟨Nat.zero_le _, Nat.zero_le _⟩) hS (fun H locs hP hS => ?_)
    obtain ⟨x_4, ex_4⟩ : ∃ z9, z9 = x_breakPart x i 0 v_2 := ⟨_, rfl⟩
    have hrow : x_rows x_4 := by rw [ex_4]; exact x_rows_breakPart hrow _ _ _
    rw [← ex_4] at hP
    refine lv_iinc (v := 1) (lv' := [(4, .int 1), (2, .long v_2), (0, .ref (ad 0)), (1, .ref (ad (7 + 2 * i)))]) hx hb d_X_breakParts_38 hl (k := 0) rfl (by decide) (by decide) rfl (fun ls hl => ?_)
    refine lv_goto (tgt := 24) hx hb d_X_breakParts_41 (by decide) ?_
    refine lv_iload hx hb d_X_breakParts_24 (lv_at hl 0 rfl) ?_
    refine lv_iconst (v := 3) hx hb d_X_breakParts_26 (by decide) ?_
    refine lv_icmp_ge (tgt := 44) hx hb d_X_breakParts_27 (by decide) (fun c_5 => absurd c_5 (by decide)) (fun c_5 => ?_)
    refine lv_aload_n hx hb d_X_breakParts_30 rfl (lv_at hl 2 rfl) ?_
    refine lv_aload_n hx hb d_X_breakParts_31 rfl (lv_at hl 3 rfl) ?_
    refine lv_iload hx hb d_X_breakParts_32 (lv_at hl 0 rfl) ?_
    refine lv_lload_n hx hb d_X_breakParts_34 rfl (lv_at hl 1 rfl) ?_
    refine wc_v (va_runV (As := [.ref (ad (7 + 2 * i)), .int 1, .long v_2]) (rest := []) ⟨hx, hb, hml, hown, hts⟩ (c_X_breakPart l g ad hL x_4 hrow hi 1 (by omega) v_2 _) (cwV 3 hts (gd_V tw_242 tw_244 tw_6 tw_24 tw_245) rfl rfl rfl (by decide +kernel) ⟨Nat.le_of_ble_eq_true rfl, Nat.le_of_ble_eq_true rfl⟩) (wp_V hK hN hP hJ (0) (by omega) rfl rfl) rfl rfl hl.1 rfl (lv_room (Nat.le_of_ble_eq_true rfl)) d_X_breakParts_35 ⟨Nat.zero_le _, Nat.zero_le _⟩) hS (fun H locs hP hS => ?_)
    obtain ⟨x_6, ex_6⟩ : ∃ z9, z9 = x_breakPart x_4 i 1 v_2 := ⟨_, rfl⟩
    have hrow : x_rows x_6 := by rw [ex_6]; exact x_rows_breakPart hrow _ _ _
    rw [← ex_6] at hP
    refine lv_iinc (v := 2) (lv' := [(4, .int 2), (2, .long v_2), (0, .ref (ad 0)), (1, .ref (ad (7 + 2 * i)))]) hx hb d_X_breakParts_38 hl (k := 0) rfl (by decide) (by decide) rfl (fun ls hl => ?_)
    refine lv_goto (tgt := 24) hx hb d_X_breakParts_41 (by decide) ?_
    refine lv_iload hx hb d_X_breakParts_24 (lv_at hl 0 rfl) ?_
    refine lv_iconst (v := 3) hx hb d_X_breakParts_26 (by decide) ?_
    refine lv_icmp_ge (tgt := 44) hx hb d_X_breakParts_27 (by decide) (fun c_7 => absurd c_7 (by decide)) (fun c_7 => ?_)
    refine lv_aload_n hx hb d_X_breakParts_30 rfl (lv_at hl 2 rfl) ?_
    refine lv_aload_n hx hb d_X_breakParts_31 rfl (lv_at hl 3 rfl) ?_
    refine lv_iload hx hb d_X_breakParts_32 (lv_at hl 0 rfl) ?_
    refine lv_lload_n hx hb d_X_breakParts_34 rfl (lv_at hl 1 rfl) ?_
    refine wc_v (va_runV (As := [.ref (ad (7 + 2 * i)), .int 2, .long v_2]) (rest := []) ⟨hx, hb, hml, hown, hts⟩ (c_X_breakPart l g ad hL x_6 hrow hi 2 (by omega) v_2 _) (cwV 3 hts (gd_V tw_242 tw_244 tw_6 tw_24 tw_245) rfl rfl rfl (by decide +kernel) ⟨Nat.le_of_ble_eq_true rfl, Nat.le_of_ble_eq_true rfl⟩) (wp_V hK hN hP hJ (0) (by omega) rfl rfl) rfl rfl hl.1 rfl (lv_room (Nat.le_of_ble_eq_true rfl)) d_X_breakParts_35 ⟨Nat.zero_le _, Nat.zero_le _⟩) hS (fun H locs hP hS => ?_)
    obtain ⟨x_8, ex_8⟩ : ∃ z9, z9 = x_breakPart x_6 i 2 v_2 := ⟨_, rfl⟩
    have hrow : x_rows x_8 := by rw [ex_8]; exact x_rows_breakPart hrow _ _ _
    rw [← ex_8] at hP
    refine lv_iinc (v := 3) (lv' := [(4, .int 3), (2, .long v_2), (0, .ref (ad 0)), (1, .ref (ad (7 + 2 * i)))]) hx hb d_X_breakParts_38 hl (k := 0) rfl (by decide) (by decide) rfl (fun ls hl => ?_)
    refine lv_goto (tgt := 24) hx hb d_X_breakParts_41 (by decide) ?_
    refine lv_iload hx hb d_X_breakParts_24 (lv_at hl 0 rfl) ?_
    refine lv_iconst (v := 3) hx hb d_X_breakParts_26 (by decide) ?_
    refine lv_icmp_ge (tgt := 44) hx hb d_X_breakParts_27 (by decide) (fun c_9 => ?_) (fun c_9 => absurd (by decide) c_9)
    subst ev_2
    subst ex_4
    subst ex_6
    subst ex_8
    exact W.vret hx hb hr (fun t ht hW => ⟨⟨(), rfl, trivial, by dsimp only; rw [ht]; (try simp only [x_break, if_pos c_1]); exact hP⟩, hS.F ht⟩) hS.2.2 d_X_breakParts_44
  · skip
    exact W.vret hx hb hr (fun t ht hW => ⟨⟨(), rfl, trivial, by dsimp only; rw [ht]; (try simp only [x_break, if_neg c_1]); exact hP⟩, hS.F ht⟩) hS.2.2 d_X_breakParts_15
set_option maxHeartbeats 4000000 in
set_option maxRecDepth 100000 in
theorem c_X_loseHeat (l : Launch) (g : wG) (ad : Nat → Nat) {L : Nat} (hL : 1 ≤ L ∧ L ≤ 6) (x : xS) {i : Nat} (hi : i < L) : CtV l y_X_loseHeat ws_X_loseHeat ({ frames := 1, cells := 0, slots := 0, locals := 23 }) g (16 + 2 * L) ad (xE g ad L x) (xE g ad L (x_loseHeat x i)) [.ref (ad 0), .ref (ad (7 + 2 * i))] := by
  intro sz
  refine Met.ofW (cc := b_X_loseHeat) (maxL := 4) (ret := none) (by decide +kernel) rfl ?_
  intro p e s m args below meth c s₁ B hml hv
  obtain ⟨rfl, hsz, hP, hK, hN, hJ⟩ := hv
  have hx := B.exec
  have hb := B.bytes
  have hr := B.returns
  have hts0 := atoms_spec (ws := ws_X_loseHeat) B.pre
  have hts : ∀ w ∈ tb, w.before _ s = true := fun w h => hts0 w (List.mem_cons_of_mem _ h)
  have hown : s.vm.findClass "HeapSteps" = some m.cls := findClass_of_methodNamed B.named
  have hlocks := B.notSynchronized
  subst hsz
  have hS : va_S (wA (16 + 2 * L) ad s.heap.size) s.heap s.heap [] := va_S.rf
  have hl := lv_entry ([.ref (ad 0), .ref (ad (7 + 2 * i))]) (n := 4) (Nat.le_of_ble_eq_true rfl)
  rw [lg_entry_eq]
  generalize (lg_sl ([.ref (ad 0), .ref (ad (7 + 2 * i))]) ++ List.replicate (4 - (lg_sl ([.ref (ad 0), .ref (ad (7 + 2 * i))])).length) Slot.unset).toArray = ls at hl ⊢
  have hl : lv_has ls 4 [(0, .ref (ad 0)), (1, .ref (ad (7 + 2 * i)))] := hl
  refine lv_aload_n hx hb d_X_loseHeat_0 rfl (lv_at hl 1 rfl) ?_
  refine wr_get hx hb hts in_Y hown hK hP (7 + 2 * i) (by omega) (xE_lay g ad L x hi) rfl 0 (by decide) (hts _ tw_79) rfl d_X_loseHeat_1 ?_
  refine lv_iconst (v := 4) hx hb d_X_loseHeat_4 (by decide) ?_
  refine wr_lald hx hb hK hP (8 + 2 * i) 0 (by omega) (xE_stk g ad L x hi) rfl 4 (by decide) (by omega) (by omega) d_X_loseHeat_5 ?_
  refine lv_aload_n hx hb d_X_loseHeat_6 rfl (lv_at hl 0 rfl) ?_
  refine wr_get hx hb hts in_X hown hK hP (0) (by omega) rfl rfl 7 (by decide) (hts _ tw_123) rfl d_X_loseHeat_7 ?_
  refine lv_i2l hx hb d_X_loseHeat_10 rfl ?_
  refine wc_l (va_runS (As := [.long (xT x i 4), .long (Int32.toInt64 (xI x 1))]) (rest := []) ⟨hx, hb, hml, hown, hts⟩ (c_X_millionthsOf l g _ ad _ (xT x i 4) (Int32.toInt64 (xI x 1)) _) (cwS 2 hts (gd_S tw_250 tw_251 tw_24 tw_252) rfl rfl rfl (by decide +kernel) ⟨Nat.le_of_ble_eq_true rfl, Nat.le_of_ble_eq_true rfl⟩) (wp_S hK hN hP hJ) rfl rfl hl.1 rfl (lv_room (Nat.le_of_ble_eq_true rfl)) d_X_loseHeat_11 ⟨Nat.zero_le _, Nat.zero_le _⟩) hS (fun H locs hP hS => ?_)
  refine lv_topl (fun v_1 ev_1 => ?_)
  refine lv_lstore_n (lv' := [(2, .long v_1), (0, .ref (ad 0)), (1, .ref (ad (7 + 2 * i)))]) hx hb d_X_loseHeat_14 rfl hl (by decide) rfl (fun ls hl => ?_)
  refine lv_aload_n hx hb d_X_loseHeat_15 rfl (lv_at hl 2 rfl) ?_
  refine wr_get hx hb hts in_Y hown hK hP (7 + 2 * i) (by omega) (xE_lay g ad L x hi) rfl 0 (by decide) (hts _ tw_79) rfl d_X_loseHeat_16 ?_
  refine lv_iconst (v := 4) hx hb d_X_loseHeat_19 (by decide) ?_
  refine lv_dup2_11 hx hb d_X_loseHeat_20 rfl rfl ?_
  refine wr_lald hx hb hK hP (8 + 2 * i) 0 (by omega) (xE_stk g ad L x hi) rfl 4 (by decide) (by omega) (by omega) d_X_loseHeat_21 ?_
  refine lv_lload_n hx hb d_X_loseHeat_22 rfl (lv_at hl 0 rfl) ?_
  refine lv_lsub hx hb d_X_loseHeat_23 ?_
  obtain ⟨x_2, ex_2⟩ : ∃ z9, z9 = xT' x i 4 ((xT x i 4) - v_1) := ⟨_, rfl⟩
  refine wr_last (E' := xE g ad L x_2) hx hb hK hP hJ hS (8 + 2 * i) 0 (by omega) (xE_stk g ad L x hi) rfl 4 (by decide) (by omega) (by omega) (by rw [ex_2]; exact xU_T g ad L x hi 4 ((xT x i 4) - v_1)) d_X_loseHeat_24 (fun H locs hP hS => ?_)
  refine lv_aload_n hx hb d_X_loseHeat_25 rfl (lv_at hl 1 rfl) ?_
  refine wr_get hx hb hts in_X hown hK hP (0) (by omega) rfl rfl 3 (by decide) (hts _ tw_119) rfl d_X_loseHeat_26 ?_
  refine lv_iconst (v := 5) hx hb d_X_loseHeat_29 (by decide) ?_
  refine lv_dup2_11 hx hb d_X_loseHeat_30 rfl rfl ?_
  refine wr_lald hx hb hK hP (3) 0 (by omega) rfl rfl 5 (by decide) (by omega) (by omega) d_X_loseHeat_31 ?_
  refine lv_lload_n hx hb d_X_loseHeat_32 rfl (lv_at hl 0 rfl) ?_
  refine lv_ladd hx hb d_X_loseHeat_33 ?_
  obtain ⟨x_3, ex_3⟩ : ∃ z9, z9 = xO' x_2 0 5 ((xO x_2 0 5) + v_1) := ⟨_, rfl⟩
  refine wr_last (E' := xE g ad L x_3) hx hb hK hP hJ hS (3) 0 (by omega) rfl rfl 5 (by decide) (by omega) (by omega) (by rw [ex_3]; exact xU_O g ad L x_2 0 5 (by decide) ((xO x_2 0 5) + v_1)) d_X_loseHeat_34 (fun H locs hP hS => ?_)
  subst ev_1
  subst ex_2
  subst ex_3
  exact W.vret hx hb hr (fun t ht hW => ⟨⟨(), rfl, trivial, by dsimp only; rw [ht]; (try simp only [x_loseHeat]); exact hP⟩, hS.F ht⟩) hS.2.2 d_X_loseHeat_35
set_option maxHeartbeats 4000000 in
set_option maxRecDepth 100000 in
theorem c_X_driveOff (l : Launch) (g : wG) (ad : Nat → Nat) {L : Nat} (hL : 1 ≤ L ∧ L ≤ 6) (x : xS) {i : Nat} (hi : i < L) : CtV l y_X_driveOff ws_X_driveOff ({ frames := 1, cells := 0, slots := 0, locals := 23 }) g (16 + 2 * L) ad (xE g ad L x) (xE g ad L (x_driveOff x i)) [.ref (ad 0), .ref (ad (7 + 2 * i))] := by
  intro sz
  refine Met.ofW (cc := b_X_driveOff) (maxL := 6) (ret := none) (by decide +kernel) rfl ?_
  intro p e s m args below meth c s₁ B hml hv
  obtain ⟨rfl, hsz, hP, hK, hN, hJ⟩ := hv
  have hx := B.exec
  have hb := B.bytes
  have hr := B.returns
  have hts0 := atoms_spec (ws := ws_X_driveOff) B.pre
  have hts : ∀ w ∈ tb, w.before _ s = true := fun w h => hts0 w (List.mem_cons_of_mem _ h)
  have hown : s.vm.findClass "HeapSteps" = some m.cls := findClass_of_methodNamed B.named
  have hlocks := B.notSynchronized
  subst hsz
  have hS : va_S (wA (16 + 2 * L) ad s.heap.size) s.heap s.heap [] := va_S.rf
  have hl := lv_entry ([.ref (ad 0), .ref (ad (7 + 2 * i))]) (n := 6) (Nat.le_of_ble_eq_true rfl)
  rw [lg_entry_eq]
  generalize (lg_sl ([.ref (ad 0), .ref (ad (7 + 2 * i))]) ++ List.replicate (6 - (lg_sl ([.ref (ad 0), .ref (ad (7 + 2 * i))])).length) Slot.unset).toArray = ls at hl ⊢
  have hl : lv_has ls 6 [(0, .ref (ad 0)), (1, .ref (ad (7 + 2 * i)))] := hl
  refine lv_aload_n hx hb d_X_driveOff_0 rfl (lv_at hl 1 rfl) ?_
  refine wr_get hx hb hts in_Y hown hK hP (7 + 2 * i) (by omega) (xE_lay g ad L x hi) rfl 0 (by decide) (hts _ tw_79) rfl d_X_driveOff_1 ?_
  refine lv_iconst (v := 3) hx hb d_X_driveOff_4 (by decide) ?_
  refine wr_lald hx hb hK hP (8 + 2 * i) 0 (by omega) (xE_stk g ad L x hi) rfl 3 (by decide) (by omega) (by omega) d_X_driveOff_5 ?_
  refine lv_aload_n hx hb d_X_driveOff_6 rfl (lv_at hl 0 rfl) ?_
  refine wr_get hx hb hts in_X hown hK hP (0) (by omega) rfl rfl 2 (by decide) (hts _ tw_118) rfl d_X_driveOff_7 ?_
  refine wr_get hx hb hts in_F hown hK hP (2) (by omega) rfl rfl 5 (by decide) (hts _ tw_52) rfl d_X_driveOff_10 ?_
  refine lv_i2l hx hb d_X_driveOff_13 rfl ?_
  refine wc_l (va_runS (As := [.long (xT x i 3), .long (Int32.toInt64 (xI x 8))]) (rest := []) ⟨hx, hb, hml, hown, hts⟩ (c_X_millionthsOf l g _ ad _ (xT x i 3) (Int32.toInt64 (xI x 8)) _) (cwS 2 hts (gd_S tw_250 tw_251 tw_24 tw_252) rfl rfl rfl (by decide +kernel) ⟨Nat.le_of_ble_eq_true rfl, Nat.le_of_ble_eq_true rfl⟩) (wp_S hK hN hP hJ) rfl rfl hl.1 rfl (lv_room (Nat.le_of_ble_eq_true rfl)) d_X_driveOff_14 ⟨Nat.zero_le _, Nat.zero_le _⟩) hS (fun H locs hP hS => ?_)
  refine lv_topl (fun v_1 ev_1 => ?_)
  refine lv_lstore_n (lv' := [(2, .long v_1), (0, .ref (ad 0)), (1, .ref (ad (7 + 2 * i)))]) hx hb d_X_driveOff_17 rfl hl (by decide) rfl (fun ls hl => ?_)
  refine lv_lload_n hx hb d_X_driveOff_18 rfl (lv_at hl 0 rfl) ?_
  refine lv_ldc2 (v := 600) hx hb hown (hts _ tw_263) d_X_driveOff_19 ?_
  refine lv_lmul hx hb d_X_driveOff_22 ?_
  refine lv_aload_n hx hb d_X_driveOff_23 rfl (lv_at hl 2 rfl) ?_
  refine wr_get hx hb hts in_Y hown hK hP (7 + 2 * i) (by omega) (xE_lay g ad L x hi) rfl 0 (by decide) (hts _ tw_79) rfl d_X_driveOff_24 ?_
  refine lv_iconst (v := 4) hx hb d_X_driveOff_27 (by decide) ?_
  refine wr_lald hx hb hK hP (8 + 2 * i) 0 (by omega) (xE_stk g ad L x hi) rfl 4 (by decide) (by omega) (by omega) d_X_driveOff_28 ?_
  refine va_mmin_long hx hb (hml.trans hl.1.symm) hown (hts _ tw_264) (hts _ tw_265) (hts _ tw_29) (hts _ tw_266) (Nat.le_of_ble_eq_true rfl) (Nat.le_of_ble_eq_true rfl) (Nat.zero_le _) (Nat.zero_le _) d_X_driveOff_29 ?_
  refine W.eq (g2 := F0 m 32 ls [.long (x_min (v_1 * 600) (xT x i 4))]) rfl ?_
  refine lv_topl (fun v_2 ev_2 => ?_)
  refine lv_lstore (lv' := [(4, .long v_2), (2, .long v_1), (0, .ref (ad 0)), (1, .ref (ad (7 + 2 * i)))]) hx hb d_X_driveOff_32 hl (by decide) rfl (fun ls hl => ?_)
  refine lv_aload_n hx hb d_X_driveOff_34 rfl (lv_at hl 3 rfl) ?_
  refine wr_get hx hb hts in_Y hown hK hP (7 + 2 * i) (by omega) (xE_lay g ad L x hi) rfl 0 (by decide) (hts _ tw_79) rfl d_X_driveOff_35 ?_
  refine lv_iconst (v := 3) hx hb d_X_driveOff_38 (by decide) ?_
  refine lv_dup2_11 hx hb d_X_driveOff_39 rfl rfl ?_
  refine wr_lald hx hb hK hP (8 + 2 * i) 0 (by omega) (xE_stk g ad L x hi) rfl 3 (by decide) (by omega) (by omega) d_X_driveOff_40 ?_
  refine lv_lload_n hx hb d_X_driveOff_41 rfl (lv_at hl 1 rfl) ?_
  refine lv_lsub hx hb d_X_driveOff_42 ?_
  obtain ⟨x_3, ex_3⟩ : ∃ z9, z9 = xT' x i 3 ((xT x i 3) - v_1) := ⟨_, rfl⟩
  refine wr_last (E' := xE g ad L x_3) hx hb hK hP hJ hS (8 + 2 * i) 0 (by omega) (xE_stk g ad L x hi) rfl 3 (by decide) (by omega) (by omega) (by rw [ex_3]; exact xU_T g ad L x hi 3 ((xT x i 3) - v_1)) d_X_driveOff_43 (fun H locs hP hS => ?_)
  refine lv_aload_n hx hb d_X_driveOff_44 rfl (lv_at hl 3 rfl) ?_
  refine wr_get hx hb hts in_Y hown hK hP (7 + 2 * i) (by omega) (xE_lay g ad L x_3 hi) rfl 0 (by decide) (hts _ tw_79) rfl d_X_driveOff_45 ?_
  refine lv_iconst (v := 4) hx hb d_X_driveOff_48 (by decide) ?_
  refine lv_dup2_11 hx hb d_X_driveOff_49 rfl rfl ?_
  refine wr_lald hx hb hK hP (8 + 2 * i) 0 (by omega) (xE_stk g ad L x_3 hi) rfl 4 (by decide) (by omega) (by omega) d_X_driveOff_50 ?_
  refine lv_lload hx hb d_X_driveOff_51 (lv_at hl 0 rfl) ?_
  refine lv_lsub hx hb d_X_driveOff_53 ?_
  obtain ⟨x_4, ex_4⟩ : ∃ z9, z9 = xT' x_3 i 4 ((xT x_3 i 4) - v_2) := ⟨_, rfl⟩
  refine wr_last (E' := xE g ad L x_4) hx hb hK hP hJ hS (8 + 2 * i) 0 (by omega) (xE_stk g ad L x_3 hi) rfl 4 (by decide) (by omega) (by omega) (by rw [ex_4]; exact xU_T g ad L x_3 hi 4 ((xT x_3 i 4) - v_2)) d_X_driveOff_54 (fun H locs hP hS => ?_)
  refine lv_aload_n hx hb d_X_driveOff_55 rfl (lv_at hl 2 rfl) ?_
  refine wr_get hx hb hts in_X hown hK hP (0) (by omega) rfl rfl 3 (by decide) (hts _ tw_119) rfl d_X_driveOff_56 ?_
  refine lv_iconst (v := 1) hx hb d_X_driveOff_59 (by decide) ?_
  refine lv_dup2_11 hx hb d_X_driveOff_60 rfl rfl ?_
  refine wr_lald hx hb hK hP (3) 0 (by omega) rfl rfl 1 (by decide) (by omega) (by omega) d_X_driveOff_61 ?_
  refine lv_lload_n hx hb d_X_driveOff_62 rfl (lv_at hl 1 rfl) ?_
  refine lv_ladd hx hb d_X_driveOff_63 ?_
  obtain ⟨x_5, ex_5⟩ : ∃ z9, z9 = xO' x_4 0 1 ((xO x_4 0 1) + v_1) := ⟨_, rfl⟩
  refine wr_last (E' := xE g ad L x_5) hx hb hK hP hJ hS (3) 0 (by omega) rfl rfl 1 (by decide) (by omega) (by omega) (by rw [ex_5]; exact xU_O g ad L x_4 0 1 (by decide) ((xO x_4 0 1) + v_1)) d_X_driveOff_64 (fun H locs hP hS => ?_)
  refine lv_aload_n hx hb d_X_driveOff_65 rfl (lv_at hl 2 rfl) ?_
  refine wr_get hx hb hts in_X hown hK hP (0) (by omega) rfl rfl 3 (by decide) (hts _ tw_119) rfl d_X_driveOff_66 ?_
  refine lv_bipush (v := 6) hx hb d_X_driveOff_69 (by decide) ?_
  refine lv_dup2_11 hx hb d_X_driveOff_71 rfl rfl ?_
  refine wr_lald hx hb hK hP (3) 0 (by omega) rfl rfl 6 (by decide) (by omega) (by omega) d_X_driveOff_72 ?_
  refine lv_lload hx hb d_X_driveOff_73 (lv_at hl 0 rfl) ?_
  refine lv_ladd hx hb d_X_driveOff_75 ?_
  obtain ⟨x_6, ex_6⟩ : ∃ z9, z9 = xO' x_5 0 6 ((xO x_5 0 6) + v_2) := ⟨_, rfl⟩
  refine wr_last (E' := xE g ad L x_6) hx hb hK hP hJ hS (3) 0 (by omega) rfl rfl 6 (by decide) (by omega) (by omega) (by rw [ex_6]; exact xU_O g ad L x_5 0 6 (by decide) ((xO x_5 0 6) + v_2)) d_X_driveOff_76 (fun H locs hP hS => ?_)
  subst ev_1
  subst ev_2
  subst ex_3
  subst ex_4
  subst ex_5
  subst ex_6
  exact W.vret hx hb hr (fun t ht hW => ⟨⟨(), rfl, trivial, by dsimp only; rw [ht]; (try simp only [x_driveOff]); exact hP⟩, hS.F ht⟩) hS.2.2 d_X_driveOff_77
end
section
set_option maxHeartbeats 4000000 in
set_option maxRecDepth 100000 in
theorem c_X_passMinute (l : Launch) (g : wG) (ad : Nat → Nat) {L : Nat} (hL : 1 ≤ L ∧ L ≤ 6) (x : xS) (hrow : x_rows x) : CtV l y_X_passMinute ws_X_passMinute ({ frames := 3, cells := 0, slots := 0, locals := 79 }) g (16 + 2 * L) ad (xE g ad L x) (xE g ad L (x_minute L x)) [.ref (ad 0)] := by
  intro sz
  refine Met.ofW (cc := b_X_passMinute) (maxL := 3) (ret := none) (by decide +kernel) rfl ?_
  intro p e s m args below meth c s₁ B hml hv
  obtain ⟨rfl, hsz, hP, hK, hN, hJ⟩ := hv
  have hx := B.exec
  have hb := B.bytes
  have hr := B.returns
  have hts0 := atoms_spec (ws := ws_X_passMinute) B.pre
  have hts : ∀ w ∈ tb, w.before _ s = true := fun w h => hts0 w (List.mem_cons_of_mem _ h)
  have hown : s.vm.findClass "HeapSteps" = some m.cls := findClass_of_methodNamed B.named
  have hlocks := B.notSynchronized
  subst hsz
  have hS : va_S (wA (16 + 2 * L) ad s.heap.size) s.heap s.heap [] := va_S.rf
  have hl := lv_entry ([.ref (ad 0)]) (n := 3) (Nat.le_of_ble_eq_true rfl)
  rw [lg_entry_eq]
  generalize (lg_sl ([.ref (ad 0)]) ++ List.replicate (3 - (lg_sl ([.ref (ad 0)])).length) Slot.unset).toArray = ls at hl ⊢
  have hl : lv_has ls 3 [(0, .ref (ad 0))] := hl
  refine lv_aload_n hx hb d_X_passMinute_0 rfl (lv_at hl 0 rfl) ?_
  refine lv_aload_n hx hb d_X_passMinute_1 rfl (lv_at hl 0 rfl) ?_
  refine wr_get hx hb hts in_X hown hK hP (0) (by omega) rfl rfl 6 (by decide) (hts _ tw_122) rfl d_X_passMinute_2 ?_
  refine lv_i2l hx hb d_X_passMinute_5 rfl ?_
  refine lv_iconst (v := 0) hx hb d_X_passMinute_6 (by decide) ?_
  refine wc_v (va_runV (As := [.long (Int32.toInt64 (xI x 0)), .int 0]) (rest := []) ⟨hx, hb, hml, hown, hts⟩ (c_X_pour l g ad hL x (Int32.toInt64 (xI x 0)) 0 _) (cwV 2 hts (gd_V tw_234 tw_236 tw_4 tw_24 tw_237) rfl rfl rfl (by decide +kernel) ⟨Nat.le_of_ble_eq_true rfl, Nat.le_of_ble_eq_true rfl⟩) (wp_V hK hN hP hJ (0) (by omega) rfl rfl) rfl rfl hl.1 rfl (lv_room (Nat.le_of_ble_eq_true rfl)) d_X_passMinute_7 ⟨Nat.zero_le _, Nat.zero_le _⟩) hS (fun H locs hP hS => ?_)
  obtain ⟨x_1, ex_1⟩ : ∃ z9, z9 = x_pour L x (Int32.toInt64 (xI x 0)) 0 := ⟨_, rfl⟩
  have hrow : x_rows x_1 := by rw [ex_1]; exact x_rows_of (xYs_pour _ _ _ _) hrow
  rw [← ex_1] at hP
  refine lv_aload_n hx hb d_X_passMinute_10 rfl (lv_at hl 0 rfl) ?_
  refine wr_get hx hb hts in_X hown hK hP (0) (by omega) rfl rfl 3 (by decide) (hts _ tw_119) rfl d_X_passMinute_11 ?_
  refine lv_iconst (v := 3) hx hb d_X_passMinute_14 (by decide) ?_
  refine lv_dup2_11 hx hb d_X_passMinute_15 rfl rfl ?_
  refine wr_lald hx hb hK hP (3) 0 (by omega) rfl rfl 3 (by decide) (by omega) (by omega) d_X_passMinute_16 ?_
  refine lv_aload_n hx hb d_X_passMinute_17 rfl (lv_at hl 0 rfl) ?_
  refine wr_get hx hb hts in_X hown hK hP (0) (by omega) rfl rfl 6 (by decide) (hts _ tw_122) rfl d_X_passMinute_18 ?_
  refine lv_i2l hx hb d_X_passMinute_21 rfl ?_
  refine lv_ladd hx hb d_X_passMinute_22 ?_
  obtain ⟨x_2, ex_2⟩ : ∃ z9, z9 = xO' x_1 0 3 ((xO x_1 0 3) + (Int32.toInt64 (xI x_1 0))) := ⟨_, rfl⟩
  have hrow : x_rows x_2 := by rw [ex_2]; exact x_rows_of (xYs_O _ _ _ _) hrow
  refine wr_last (E' := xE g ad L x_2) hx hb hK hP hJ hS (3) 0 (by omega) rfl rfl 3 (by decide) (by omega) (by omega) (by rw [ex_2]; exact xU_O g ad L x_1 0 3 (by decide) ((xO x_1 0 3) + (Int32.toInt64 (xI x_1 0)))) d_X_passMinute_23 (fun H locs hP hS => ?_)
  refine lv_iconst (v := 0) hx hb d_X_passMinute_24 (by decide) ?_
  refine lv_istore_n (lv' := [(1, .int 0), (0, .ref (ad 0))]) hx hb d_X_passMinute_25 rfl hl (by decide) rfl (fun ls hl => ?_)
  refine wl_loop (pc := 26) (fun fu H locs ls => ∃ i : Nat, i + fu = L ∧ va_P g.1 vwCl (wo (16 + 2 * L) ad (xE g ad L (x_layersN L x_2 i))) H ∧ va_S (wA (16 + 2 * L) ad s.heap.size) s.heap H locs ∧ lv_has ls 3 [(1, .int (nI i)), (0, .ref (ad 0))]) ?_ ?_ L _ _ _ ⟨0, by omega, hP, hS, lv_sub hl [0, 1] rfl⟩
  · intro H locs ls hI
    obtain ⟨i, hi, hP, hS, hl⟩ := hI
    have hT_i : i = L := by omega
    try rw [hT_i] at hP
    try rw [hT_i] at hl
    obtain ⟨x_3, ex_3⟩ : ∃ z9, z9 = x_layersN L x_2 L := ⟨_, rfl⟩
    rw [← ex_3] at hP
    refine lv_iload_n hx hb d_X_passMinute_26 rfl (lv_at hl 0 rfl) ?_
    refine lv_aload_n hx hb d_X_passMinute_27 rfl (lv_at hl 1 rfl) ?_
    refine wr_get hx hb hts in_X hown hK hP (0) (by omega) rfl rfl 0 (by decide) (hts _ tw_116) rfl d_X_passMinute_28 ?_
    refine wr_alen (v := nI L) hx hb hK hP (6) 2 (by omega) rfl rfl rfl d_X_passMinute_31 ?_
    refine lv_icmp_ge (tgt := 74) hx hb d_X_passMinute_32 (by decide) (fun c_4 => ?_) (fun c_4 => absurd (nI_le (by omega) (by omega)) c_4)
    refine lv_aload_n hx hb d_X_passMinute_74 rfl (lv_at hl 1 rfl) ?_
    refine wr_get hx hb hts in_X hown hK hP (0) (by omega) rfl rfl 2 (by decide) (hts _ tw_118) rfl d_X_passMinute_75 ?_
    refine lv_aload_n hx hb d_X_passMinute_78 rfl (lv_at hl 1 rfl) ?_
    refine wc_l (va_runV (As := []) (rest := [.ref (ad 2)]) ⟨hx, hb, hml, hown, hts⟩ (c_X_greatestWarmth l g ad hL x_3 _) (cwV 0 hts (gd_V tw_215 tw_217 tw_2 tw_24 tw_218) rfl rfl rfl (by decide +kernel) ⟨Nat.le_of_ble_eq_true rfl, Nat.le_of_ble_eq_true rfl⟩) (wp_V hK hN hP hJ (0) (by omega) rfl rfl) rfl rfl hl.1 rfl (lv_room (Nat.le_of_ble_eq_true rfl)) d_X_passMinute_79 ⟨Nat.zero_le _, Nat.zero_le _⟩) hS (fun H locs hP hS => ?_)
    refine wc_v (va_runV (As := [.long (x_gwN x_3 L)]) (rest := []) ⟨hx, hb, hml, hown, hts⟩ (c_F_adjust l g ad hL x_3 (x_gwN x_3 L) _) (cwV 1 hts (gd_V tw_272 tw_273 tw_274 tw_25 tw_275) rfl rfl rfl (by decide +kernel) ⟨Nat.le_of_ble_eq_true rfl, Nat.le_of_ble_eq_true rfl⟩) (wp_V hK hN hP hJ (2) (by omega) rfl rfl) rfl rfl hl.1 rfl (lv_room (Nat.le_of_ble_eq_true rfl)) d_X_passMinute_82 ⟨Nat.zero_le _, Nat.zero_le _⟩) hS (fun H locs hP hS => ?_)
    obtain ⟨x_5, ex_5⟩ : ∃ z9, z9 = x_adjust x_3 (x_gwN x_3 L) := ⟨_, rfl⟩
    rw [← ex_5] at hP
    refine lv_aload_n hx hb d_X_passMinute_85 rfl (lv_at hl 1 rfl) ?_
    refine wr_get hx hb hts in_X hown hK hP (0) (by omega) rfl rfl 3 (by decide) (hts _ tw_119) rfl d_X_passMinute_86 ?_
    refine lv_bipush (v := 8) hx hb d_X_passMinute_89 (by decide) ?_
    refine lv_dup2_11 hx hb d_X_passMinute_91 rfl rfl ?_
    refine wr_lald hx hb hK hP (3) 0 (by omega) rfl rfl 8 (by decide) (by omega) (by omega) d_X_passMinute_92 ?_
    refine lv_lconst (v := 1) hx hb d_X_passMinute_93 (by decide) ?_
    refine lv_ladd hx hb d_X_passMinute_94 ?_
    obtain ⟨x_6, ex_6⟩ : ∃ z9, z9 = xO' x_5 0 8 ((xO x_5 0 8) + 1) := ⟨_, rfl⟩
    refine wr_last (E' := xE g ad L x_6) hx hb hK hP hJ hS (3) 0 (by omega) rfl rfl 8 (by decide) (by omega) (by omega) (by rw [ex_6]; exact xU_O g ad L x_5 0 8 (by decide) ((xO x_5 0 8) + 1)) d_X_passMinute_95 (fun H locs hP hS => ?_)
    subst ex_1
    subst ex_2
    subst ex_3
    subst ex_5
    subst ex_6
    exact W.vret hx hb hr (fun t ht hW => ⟨⟨(), rfl, trivial, by dsimp only; rw [ht]; (try simp only [x_minute]); exact hP⟩, hS.F ht⟩) hS.2.2 d_X_passMinute_96
  · intro fu ih_i H locs ls hI
    obtain ⟨i, hi, hP, hS, hl⟩ := hI
    have hi_i : i < L := by omega
    obtain ⟨x_7, ex_7⟩ : ∃ z9, z9 = x_layersN L x_2 i := ⟨_, rfl⟩
    rw [← ex_7] at hP
    have hrow : x_rows x_7 := by rw [ex_7]; exact x_rows_layersN hrow _ _
    refine lv_iload_n hx hb d_X_passMinute_26 rfl (lv_at hl 0 rfl) ?_
    refine lv_aload_n hx hb d_X_passMinute_27 rfl (lv_at hl 1 rfl) ?_
    refine wr_get hx hb hts in_X hown hK hP (0) (by omega) rfl rfl 0 (by decide) (hts _ tw_116) rfl d_X_passMinute_28 ?_
    refine wr_alen (v := nI L) hx hb hK hP (6) 2 (by omega) rfl rfl rfl d_X_passMinute_31 ?_
    refine lv_icmp_ge (tgt := 74) hx hb d_X_passMinute_32 (by decide) (fun c_8 => absurd c_8 (nI_ge hi_i (by omega))) (fun c_8 => ?_)
    refine lv_aload_n hx hb d_X_passMinute_35 rfl (lv_at hl 1 rfl) ?_
    refine wr_get hx hb hts in_X hown hK hP (0) (by omega) rfl rfl 0 (by decide) (hts _ tw_116) rfl d_X_passMinute_36 ?_
    refine lv_iload_n hx hb d_X_passMinute_39 rfl (lv_at hl 0 rfl) ?_
    refine wr_aldq hx hb hK hP (6) 2 (by omega) rfl rfl i rfl (by omega) (by omega) (v := ad (7 + 2 * i)) (if_pos hi_i) d_X_passMinute_40 ?_
    refine lv_astore_n (lv' := [(2, .ref (ad (7 + 2 * i))), (1, .int (nI i)), (0, .ref (ad 0))]) hx hb d_X_passMinute_41 rfl hl (by decide) rfl (fun ls hl => ?_)
    refine lv_aload_n hx hb d_X_passMinute_42 rfl (lv_at hl 2 rfl) ?_
    refine lv_aload_n hx hb d_X_passMinute_43 rfl (lv_at hl 0 rfl) ?_
    refine wc_v (va_runV (As := [.ref (ad (7 + 2 * i))]) (rest := []) ⟨hx, hb, hml, hown, hts⟩ (c_X_breakParts l g ad hL x_7 hrow hi_i _) (cwV 1 hts (gd_V tw_238 tw_240 tw_5 tw_24 tw_241) rfl rfl rfl (by decide +kernel) ⟨Nat.le_of_ble_eq_true rfl, Nat.le_of_ble_eq_true rfl⟩) (wp_V hK hN hP hJ (0) (by omega) rfl rfl) rfl rfl hl.1 rfl (lv_room (Nat.le_of_ble_eq_true rfl)) d_X_passMinute_44 ⟨Nat.zero_le _, Nat.zero_le _⟩) hS (fun H locs hP hS => ?_)
    obtain ⟨x_9, ex_9⟩ : ∃ z9, z9 = x_break x_7 i := ⟨_, rfl⟩
    rw [← ex_9] at hP
    refine lv_aload_n hx hb d_X_passMinute_47 rfl (lv_at hl 2 rfl) ?_
    refine lv_aload_n hx hb d_X_passMinute_48 rfl (lv_at hl 0 rfl) ?_
    refine wc_v (va_runV (As := [.ref (ad (7 + 2 * i))]) (rest := []) ⟨hx, hb, hml, hown, hts⟩ (c_X_loseHeat l g ad hL x_9 hi_i _) (cwV 1 hts (gd_V tw_255 tw_257 tw_7 tw_24 tw_258) rfl rfl rfl (by decide +kernel) ⟨Nat.le_of_ble_eq_true rfl, Nat.le_of_ble_eq_true rfl⟩) (wp_V hK hN hP hJ (0) (by omega) rfl rfl) rfl rfl hl.1 rfl (lv_room (Nat.le_of_ble_eq_true rfl)) d_X_passMinute_49 ⟨Nat.zero_le _, Nat.zero_le _⟩) hS (fun H locs hP hS => ?_)
    obtain ⟨x_10, ex_10⟩ : ∃ z9, z9 = x_loseHeat x_9 i := ⟨_, rfl⟩
    rw [← ex_10] at hP
    refine lv_aload_n hx hb d_X_passMinute_52 rfl (lv_at hl 2 rfl) ?_
    refine lv_aload_n hx hb d_X_passMinute_53 rfl (lv_at hl 0 rfl) ?_
    refine wc_v (va_runV (As := [.ref (ad (7 + 2 * i))]) (rest := []) ⟨hx, hb, hml, hown, hts⟩ (c_X_driveOff l g ad hL x_10 hi_i _) (cwV 1 hts (gd_V tw_259 tw_261 tw_8 tw_24 tw_262) rfl rfl rfl (by decide +kernel) ⟨Nat.le_of_ble_eq_true rfl, Nat.le_of_ble_eq_true rfl⟩) (wp_V hK hN hP hJ (0) (by omega) rfl rfl) rfl rfl hl.1 rfl (lv_room (Nat.le_of_ble_eq_true rfl)) d_X_passMinute_54 ⟨Nat.zero_le _, Nat.zero_le _⟩) hS (fun H locs hP hS => ?_)
    obtain ⟨x_11, ex_11⟩ : ∃ z9, z9 = x_driveOff x_10 i := ⟨_, rfl⟩
    rw [← ex_11] at hP
    refine lv_aload_n hx hb d_X_passMinute_57 rfl (lv_at hl 2 rfl) ?_
    refine lv_aload_n hx hb d_X_passMinute_58 rfl (lv_at hl 0 rfl) ?_
    refine wc_l (va_runV (As := []) (rest := [.ref (ad 0)]) ⟨hx, hb, hml, hown, hts⟩ (c_Y_takeSurplus l g ad hL x_11 hi_i _) (cwV 0 hts (gd_V tw_267 tw_268 tw_269 tw_26 tw_270) rfl rfl rfl (by decide +kernel) ⟨Nat.le_of_ble_eq_true rfl, Nat.le_of_ble_eq_true rfl⟩) (wp_V hK hN hP hJ (7 + 2 * i) (by omega) (xE_lay g ad L x_11 hi_i) rfl) rfl rfl hl.1 rfl (lv_room (Nat.le_of_ble_eq_true rfl)) d_X_passMinute_59 ⟨Nat.zero_le _, Nat.zero_le _⟩) hS (fun H locs hP hS => ?_)
    obtain ⟨x_12, ex_12⟩ : ∃ z9, z9 = x_takeSurplus x_11 i := ⟨_, rfl⟩
    rw [← ex_12] at hP
    refine lv_iload_n hx hb d_X_passMinute_62 rfl (lv_at hl 1 rfl) ?_
    refine lv_iconst (v := 1) hx hb d_X_passMinute_63 (by decide) ?_
    refine lv_iadd hx hb d_X_passMinute_64 ?_
    rw [nI_1]
    refine wc_v (va_runV (As := [.long (x_surplus x_11 i), .int (nI (i + 1))]) (rest := []) ⟨hx, hb, hml, hown, hts⟩ (c_X_pour l g ad hL x_12 (x_surplus x_11 i) (nI (i + 1)) _) (cwV 2 hts (gd_V tw_234 tw_236 tw_4 tw_24 tw_237) rfl rfl rfl (by decide +kernel) ⟨Nat.le_of_ble_eq_true rfl, Nat.le_of_ble_eq_true rfl⟩) (wp_V hK hN hP hJ (0) (by omega) rfl rfl) rfl rfl hl.1 rfl (lv_room (Nat.le_of_ble_eq_true rfl)) d_X_passMinute_65 ⟨Nat.zero_le _, Nat.zero_le _⟩) hS (fun H locs hP hS => ?_)
    obtain ⟨x_13, ex_13⟩ : ∃ z9, z9 = x_pour L x_12 (x_surplus x_11 i) (nI (i + 1)) := ⟨_, rfl⟩
    rw [← ex_13] at hP
    refine lv_iinc (v := nI (i + 1)) (lv' := [(1, .int (nI (i + 1))), (2, .ref (ad (7 + 2 * i))), (0, .ref (ad 0))]) hx hb d_X_passMinute_68 hl (k := 1) rfl (nI_1 i) (by decide) rfl (fun ls hl => ?_)
    refine lv_goto (tgt := 26) hx hb d_X_passMinute_71 (by decide) ?_
    subst ex_7
    subst ex_9
    subst ex_10
    subst ex_11
    subst ex_12
    subst ex_13
    exact ih_i _ _ _ ⟨i + 1, by omega, (by skip; exact hP), hS, lv_sub hl [0, 2] (by skip; rfl)⟩
end
section
set_option maxHeartbeats 4000000 in
set_option maxRecDepth 100000 in
theorem c_X_run (l : Launch) (g : wG) (ad : Nat → Nat) {L : Nat} (hL : 1 ≤ L ∧ L ≤ 6) (x : xS) (hrow : x_rows x) (a1 : Int32) : CtI l y_X_run ws_X_run ({ frames := 4, cells := 0, slots := 0, locals := 101 }) g (16 + 2 * L) ad (xE g ad L x) (xE g ad L (x_run L x a1).2) [.ref (ad 0), .int a1] (x_run L x a1).1 := by
  intro sz
  refine Met.ofW (cc := b_X_run) (maxL := 3) (ret := (some .int)) (by decide +kernel) rfl ?_
  intro p e s m args below meth c s₁ B hml hv
  obtain ⟨rfl, hsz, hP, hK, hN, hJ⟩ := hv
  have hx := B.exec
  have hb := B.bytes
  have hr := B.returns
  have hts0 := atoms_spec (ws := ws_X_run) B.pre
  have hts : ∀ w ∈ tb, w.before _ s = true := fun w h => hts0 w (List.mem_cons_of_mem _ h)
  have hown : s.vm.findClass "HeapSteps" = some m.cls := findClass_of_methodNamed B.named
  have hlocks := B.notSynchronized
  subst hsz
  have hS : va_S (wA (16 + 2 * L) ad s.heap.size) s.heap s.heap [] := va_S.rf
  have hl := lv_entry ([.ref (ad 0), .int a1]) (n := 3) (Nat.le_of_ble_eq_true rfl)
  rw [lg_entry_eq]
  generalize (lg_sl ([.ref (ad 0), .int a1]) ++ List.replicate (3 - (lg_sl ([.ref (ad 0), .int a1])).length) Slot.unset).toArray = ls at hl ⊢
  have hl : lv_has ls 3 [(0, .ref (ad 0)), (1, .int a1)] := hl
  refine lv_iload_n hx hb d_X_run_0 rfl (lv_at hl 1 rfl) ?_
  refine lv_iconst (v := 1) hx hb d_X_run_1 (by decide) ?_
  refine lv_sipush (v := 1000) hx hb d_X_run_2 (by decide) ?_
  refine wc_i (va_runS (As := [.int a1, .int 1, .int 1000]) (rest := []) ⟨hx, hb, hml, hown, hts⟩ (c_X_within l g _ ad _ a1 1 1000 _) (cwS 3 hts (gd_S tw_67 tw_68 tw_24 tw_69) rfl rfl rfl (by decide +kernel) ⟨Nat.le_of_ble_eq_true rfl, Nat.le_of_ble_eq_true rfl⟩) (wp_S hK hN hP hJ) rfl rfl hl.1 rfl (lv_room (Nat.le_of_ble_eq_true rfl)) d_X_run_5 ⟨Nat.zero_le _, Nat.zero_le _⟩) hS (fun H locs hP hS => ?_)
  refine lv_if_eq (tgt := 28) hx hb d_X_run_8 (by decide) (fun c_1 => ?_) (fun c_1 => ?_)
  · skip
    refine lv_iconst (v := -1) hx hb d_X_run_28 (by decide) ?_
    exact W.iret hx hb hr (fun t ht hW => ⟨⟨_, (), rfl, by (try simp only [x_run, if_pos c_1]); first | done | rfl, by dsimp only; rw [ht]; (try simp only [x_run, if_pos c_1]); exact hP⟩, hS.F ht⟩) hS.2.2 d_X_run_29
  · skip
    obtain ⟨kn, hkn, hk1, rfl⟩ := x_within_run c_1
    refine lv_aload_n hx hb d_X_run_11 rfl (lv_at hl 0 rfl) ?_
    refine wr_get hx hb hts in_X hown hK hP (0) (by omega) rfl rfl 3 (by decide) (hts _ tw_119) rfl d_X_run_12 ?_
    refine lv_bipush (v := 8) hx hb d_X_run_15 (by decide) ?_
    refine wr_lald hx hb hK hP (3) 0 (by omega) rfl rfl 8 (by decide) (by omega) (by omega) d_X_run_17 ?_
    refine lv_iload_n hx hb d_X_run_18 rfl (lv_at hl 1 rfl) ?_
    refine lv_i2l hx hb d_X_run_19 rfl ?_
    refine lv_ladd hx hb d_X_run_20 ?_
    refine lv_ldc2 (v := 20000) hx hb hown (hts _ tw_214) d_X_run_21 ?_
    refine W.lcmp hx hb d_X_run_24 ?_
    refine lv_if_le (tgt := 30) hx hb d_X_run_25 (by decide) (fun c_2 => ?_) (fun c_2 => ?_)
    · skip
      refine lv_iconst (v := 0) hx hb d_X_run_30 (by decide) ?_
      refine lv_istore_n (lv' := [(2, .int 0), (0, .ref (ad 0)), (1, .int (nI kn))]) hx hb d_X_run_31 rfl hl (by decide) rfl (fun ls hl => ?_)
      refine wl_loop (pc := 32) (fun fu H locs ls => ∃ (r : Nat) (z : xS), r + fu = kn ∧ x_rows z ∧ x_goN L kn x = ((x_goN L fu z).1 + r, (x_goN L fu z).2) ∧ va_P g.1 vwCl (wo (16 + 2 * L) ad (xE g ad L z)) H ∧ va_S (wA (16 + 2 * L) ad s.heap.size) s.heap H locs ∧ lv_has ls 3 [(2, .int (nI r)), (1, .int (nI kn)), (0, .ref (ad 0))]) ?_ ?_ kn _ _ _ ⟨0, x, by omega, hrow, rfl, hP, hS, lv_sub hl [0, 2, 1] rfl⟩
      · intro H locs ls hI
        obtain ⟨r, z, hr1, hrow, hgo, hP, hS, hl⟩ := hI
        refine lv_iload_n hx hb d_X_run_32 rfl (lv_at hl 0 rfl) ?_
        refine lv_iload_n hx hb d_X_run_33 rfl (lv_at hl 1 rfl) ?_
        refine lv_icmp_ge (tgt := 60) hx hb d_X_run_34 (by decide) (fun c_3 => ?_) (fun c_3 => absurd (nI_le (by omega) (by omega)) c_3)
        refine lv_iload_n hx hb d_X_run_60 rfl (lv_at hl 0 rfl) ?_
        exact W.iret hx hb hr (fun t ht hW => ⟨⟨_, (), rfl, by (simp only [x_run, if_neg c_1, if_pos c_2, hgo, x_goN, nI_clamp (show kn < 2 ^ 31 by omega), Nat.zero_add]); first | done | rfl, by dsimp only; rw [ht]; (simp only [x_run, if_neg c_1, if_pos c_2, hgo, x_goN, nI_clamp (show kn < 2 ^ 31 by omega), Nat.zero_add]); exact hP⟩, hS.F ht⟩) hS.2.2 d_X_run_61
      · intro fu ih H locs ls hI
        obtain ⟨r, z, hr1, hrow, hgo, hP, hS, hl⟩ := hI
        have hi_r : r < kn := by omega
        refine lv_iload_n hx hb d_X_run_32 rfl (lv_at hl 0 rfl) ?_
        refine lv_iload_n hx hb d_X_run_33 rfl (lv_at hl 1 rfl) ?_
        refine lv_icmp_ge (tgt := 60) hx hb d_X_run_34 (by decide) (fun c_4 => absurd c_4 (nI_ge hi_r (by omega))) (fun c_4 => ?_)
        refine lv_aload_n hx hb d_X_run_37 rfl (lv_at hl 2 rfl) ?_
        refine wc_l (va_runV (As := []) (rest := []) ⟨hx, hb, hml, hown, hts⟩ (c_X_greatestWarmth l g ad hL z _) (cwV 0 hts (gd_V tw_215 tw_217 tw_2 tw_24 tw_218) rfl rfl rfl (by decide +kernel) ⟨Nat.le_of_ble_eq_true rfl, Nat.le_of_ble_eq_true rfl⟩) (wp_V hK hN hP hJ (0) (by omega) rfl rfl) rfl rfl hl.1 rfl (lv_room (Nat.le_of_ble_eq_true rfl)) d_X_run_38 ⟨Nat.zero_le _, Nat.zero_le _⟩) hS (fun H locs hP hS => ?_)
        refine lv_aload_n hx hb d_X_run_41 rfl (lv_at hl 2 rfl) ?_
        refine wr_get hx hb hts in_X hown hK hP (0) (by omega) rfl rfl 8 (by decide) (hts _ tw_124) rfl d_X_run_42 ?_
        refine lv_i2l hx hb d_X_run_45 rfl ?_
        refine W.lcmp hx hb d_X_run_46 ?_
        refine lv_if_gt (tgt := 60) hx hb d_X_run_47 (by decide) (fun c_5 => ?_) (fun c_5 => ?_)
        · skip
          refine lv_iload_n hx hb d_X_run_60 rfl (lv_at hl 0 rfl) ?_
          exact W.iret hx hb hr (fun t ht hW => ⟨⟨_, (), rfl, by (simp only [x_run, if_neg c_1, if_pos c_2, if_pos c_5, hgo, x_goN, nI_clamp (show kn < 2 ^ 31 by omega), Nat.zero_add]); first | done | rfl, by dsimp only; rw [ht]; (simp only [x_run, if_neg c_1, if_pos c_2, if_pos c_5, hgo, x_goN, nI_clamp (show kn < 2 ^ 31 by omega), Nat.zero_add]); exact hP⟩, hS.F ht⟩) hS.2.2 d_X_run_61
        · skip
          refine lv_aload_n hx hb d_X_run_50 rfl (lv_at hl 2 rfl) ?_
          refine wc_v (va_runV (As := []) (rest := []) ⟨hx, hb, hml, hown, hts⟩ (c_X_passMinute l g ad hL z hrow _) (cwV 0 hts (gd_V tw_230 tw_232 tw_3 tw_24 tw_233) rfl rfl rfl (by decide +kernel) ⟨Nat.le_of_ble_eq_true rfl, Nat.le_of_ble_eq_true rfl⟩) (wp_V hK hN hP hJ (0) (by omega) rfl rfl) rfl rfl hl.1 rfl (lv_room (Nat.le_of_ble_eq_true rfl)) d_X_run_51 ⟨Nat.zero_le _, Nat.zero_le _⟩) hS (fun H locs hP hS => ?_)
          obtain ⟨x_6, ex_6⟩ : ∃ z9, z9 = x_minute L z := ⟨_, rfl⟩
          rw [← ex_6] at hP
          refine lv_iinc (v := nI (r + 1)) (lv' := [(2, .int (nI (r + 1))), (1, .int (nI kn)), (0, .ref (ad 0))]) hx hb d_X_run_54 hl (k := 0) rfl (nI_1 r) (by decide) rfl (fun ls hl => ?_)
          refine lv_goto (tgt := 32) hx hb d_X_run_57 (by decide) ?_
          subst ex_6
          exact ih _ _ _ ⟨r + 1, x_minute L z, by omega, x_rows_minute hrow L, by rw [hgo]; exact x_goN_step c_5, hP, hS, lv_sub hl [0, 1, 2] rfl⟩
    · skip
      refine lv_iconst (v := -1) hx hb d_X_run_28 (by decide) ?_
      exact W.iret hx hb hr (fun t ht hW => ⟨⟨_, (), rfl, by (try simp only [x_run, if_neg c_1, if_neg c_2, nI_clamp (show kn < 2 ^ 31 by omega)]); first | done | rfl, by dsimp only; rw [ht]; (try simp only [x_run, if_neg c_1, if_neg c_2, nI_clamp (show kn < 2 ^ 31 by omega)]); exact hP⟩, hS.F ht⟩) hS.2.2 d_X_run_29
end
section
set_option maxHeartbeats 4000000 in
set_option maxRecDepth 100000 in
theorem c_X_shareOut (l : Launch) (g : wG) (ad : Nat → Nat) {L : Nat} (hL : 1 ≤ L ∧ L ≤ 6) (x : xS) (k : Nat) (hk : k < 5) : CtV l y_X_shareOut ws_X_shareOut ({ frames := 1, cells := 0, slots := 0, locals := 27 }) g (16 + 2 * L) ad (xE g ad L x) (xE g ad L (x_share L x k)) [.ref (ad 0), .int (nI k)] := by
  intro sz
  refine Met.ofW (cc := b_X_shareOut) (maxL := 10) (ret := none) (by decide +kernel) rfl ?_
  intro p e s m args below meth c s₁ B hml hv
  obtain ⟨rfl, hsz, hP, hK, hN, hJ⟩ := hv
  have hx := B.exec
  have hb := B.bytes
  have hr := B.returns
  have hts0 := atoms_spec (ws := ws_X_shareOut) B.pre
  have hts : ∀ w ∈ tb, w.before _ s = true := fun w h => hts0 w (List.mem_cons_of_mem _ h)
  have hown : s.vm.findClass "HeapSteps" = some m.cls := findClass_of_methodNamed B.named
  have hlocks := B.notSynchronized
  subst hsz
  have hS : va_S (wA (16 + 2 * L) ad s.heap.size) s.heap s.heap [] := va_S.rf
  have hl := lv_entry ([.ref (ad 0), .int (nI k)]) (n := 10) (Nat.le_of_ble_eq_true rfl)
  rw [lg_entry_eq]
  generalize (lg_sl ([.ref (ad 0), .int (nI k)]) ++ List.replicate (10 - (lg_sl ([.ref (ad 0), .int (nI k)])).length) Slot.unset).toArray = ls at hl ⊢
  have hl : lv_has ls 10 [(0, .ref (ad 0)), (1, .int (nI k))] := hl
  have hne := nIL_ne0 hL
  refine lv_aload_n hx hb d_X_shareOut_0 rfl (lv_at hl 0 rfl) ?_
  refine wr_get hx hb hts in_X hown hK hP (0) (by omega) rfl rfl 0 (by decide) (hts _ tw_116) rfl d_X_shareOut_1 ?_
  refine wr_alen (v := nI L) hx hb hK hP (6) 2 (by omega) rfl rfl rfl d_X_shareOut_4 ?_
  refine lv_istore_n (lv' := [(2, .int (nI L)), (0, .ref (ad 0)), (1, .int (nI k))]) hx hb d_X_shareOut_5 rfl hl (by decide) rfl (fun ls hl => ?_)
  refine lv_iload_n hx hb d_X_shareOut_6 rfl (lv_at hl 0 rfl) ?_
  refine lv_if_ne (tgt := 11) hx hb d_X_shareOut_7 (by decide) (fun c_1 => ?_) (fun c_1 => absurd c_1 (nI_ne0 (by omega) (by omega)))
  refine lv_aload_n hx hb d_X_shareOut_11 rfl (lv_at hl 1 rfl) ?_
  refine lv_iload_n hx hb d_X_shareOut_12 rfl (lv_at hl 2 rfl) ?_
  refine wc_l (va_runV (As := [.int (nI k)]) (rest := []) ⟨hx, hb, hml, hown, hts⟩ (c_X_inAllLayers l g ad hL x k (by omega) _) (cwV 1 hts (gd_V tw_310 tw_312 tw_10 tw_24 tw_313) rfl rfl rfl (by decide +kernel) ⟨Nat.le_of_ble_eq_true rfl, Nat.le_of_ble_eq_true rfl⟩) (wp_V hK hN hP hJ (0) (by omega) rfl rfl) rfl rfl hl.1 rfl (lv_room (Nat.le_of_ble_eq_true rfl)) d_X_shareOut_13 ⟨Nat.zero_le _, Nat.zero_le _⟩) hS (fun H locs hP hS => ?_)
  refine lv_topl (fun v_2 ev_2 => ?_)
  refine lv_lstore_n (lv' := [(3, .long v_2), (2, .int (nI L)), (0, .ref (ad 0)), (1, .int (nI k))]) hx hb d_X_shareOut_16 rfl hl (by decide) rfl (fun ls hl => ?_)
  refine lv_lload_n hx hb d_X_shareOut_17 rfl (lv_at hl 0 rfl) ?_
  refine lv_iload_n hx hb d_X_shareOut_18 rfl (lv_at hl 1 rfl) ?_
  refine lv_i2l hx hb d_X_shareOut_19 rfl ?_
  refine lv_ldiv hx hb d_X_shareOut_20 (by assumption) ?_
  refine lv_topl (fun v_3 ev_3 => ?_)
  refine lv_lstore (lv' := [(5, .long v_3), (3, .long v_2), (2, .int (nI L)), (0, .ref (ad 0)), (1, .int (nI k))]) hx hb d_X_shareOut_21 hl (by decide) rfl (fun ls hl => ?_)
  refine lv_lload_n hx hb d_X_shareOut_23 rfl (lv_at hl 1 rfl) ?_
  refine lv_iload_n hx hb d_X_shareOut_24 rfl (lv_at hl 2 rfl) ?_
  refine lv_i2l hx hb d_X_shareOut_25 rfl ?_
  refine lv_lrem hx hb d_X_shareOut_26 (by assumption) ?_
  refine lv_topl (fun v_4 ev_4 => ?_)
  refine lv_lstore (lv' := [(7, .long v_4), (5, .long v_3), (3, .long v_2), (2, .int (nI L)), (0, .ref (ad 0)), (1, .int (nI k))]) hx hb d_X_shareOut_27 hl (by decide) rfl (fun ls hl => ?_)
  refine lv_iconst (v := 0) hx hb d_X_shareOut_29 (by decide) ?_
  refine lv_istore (lv' := [(9, .int 0), (7, .long v_4), (5, .long v_3), (3, .long v_2), (2, .int (nI L)), (0, .ref (ad 0)), (1, .int (nI k))]) hx hb d_X_shareOut_30 hl (by decide) rfl (fun ls hl => ?_)
  refine wl_loop (pc := 32) (fun fu H locs ls => ∃ i : Nat, i + fu = L ∧ va_P g.1 vwCl (wo (16 + 2 * L) ad (xE g ad L (x_shareN x k v_3 v_4 i))) H ∧ va_S (wA (16 + 2 * L) ad s.heap.size) s.heap H locs ∧ lv_has ls 10 [(9, .int (nI i)), (7, .long v_4), (5, .long v_3), (3, .long v_2), (2, .int (nI L)), (1, .int (nI k)), (0, .ref (ad 0))]) ?_ ?_ L _ _ _ ⟨0, by omega, hP, hS, lv_sub hl [0, 1, 2, 3, 4, 6, 5] rfl⟩
  · intro H locs ls hI
    obtain ⟨i, hi, hP, hS, hl⟩ := hI
    have hT_i : i = L := by omega
    try rw [hT_i] at hP
    try rw [hT_i] at hl
    obtain ⟨x_5, ex_5⟩ : ∃ z9, z9 = x_shareN x k v_3 v_4 L := ⟨_, rfl⟩
    rw [← ex_5] at hP
    refine lv_iload hx hb d_X_shareOut_32 (lv_at hl 0 rfl) ?_
    refine lv_iload_n hx hb d_X_shareOut_34 rfl (lv_at hl 4 rfl) ?_
    refine lv_icmp_ge (tgt := 74) hx hb d_X_shareOut_35 (by decide) (fun c_6 => ?_) (fun c_6 => absurd (nI_le (by omega) (by omega)) c_6)
    subst ev_2
    subst ev_3
    subst ev_4
    subst ex_5
    exact W.vret hx hb hr (fun t ht hW => ⟨⟨(), rfl, trivial, by dsimp only; rw [ht]; (try simp only [x_share]); exact hP⟩, hS.F ht⟩) hS.2.2 d_X_shareOut_74
  · intro fu ih_i H locs ls hI
    obtain ⟨i, hi, hP, hS, hl⟩ := hI
    have hi_i : i < L := by omega
    obtain ⟨x_7, ex_7⟩ : ∃ z9, z9 = x_shareN x k v_3 v_4 i := ⟨_, rfl⟩
    rw [← ex_7] at hP
    refine lv_iload hx hb d_X_shareOut_32 (lv_at hl 0 rfl) ?_
    refine lv_iload_n hx hb d_X_shareOut_34 rfl (lv_at hl 4 rfl) ?_
    refine lv_icmp_ge (tgt := 74) hx hb d_X_shareOut_35 (by decide) (fun c_8 => absurd c_8 (nI_ge hi_i (by omega))) (fun c_8 => ?_)
    refine lv_aload_n hx hb d_X_shareOut_38 rfl (lv_at hl 6 rfl) ?_
    refine wr_get hx hb hts in_X hown hK hP (0) (by omega) rfl rfl 0 (by decide) (hts _ tw_116) rfl d_X_shareOut_39 ?_
    refine lv_iload hx hb d_X_shareOut_42 (lv_at hl 0 rfl) ?_
    refine wr_aldq hx hb hK hP (6) 2 (by omega) rfl rfl i rfl (by omega) (by omega) (v := ad (7 + 2 * i)) (if_pos hi_i) d_X_shareOut_44 ?_
    refine wr_get hx hb hts in_Y hown hK hP (7 + 2 * i) (by omega) (xE_lay g ad L x_7 hi_i) rfl 0 (by decide) (hts _ tw_79) rfl d_X_shareOut_45 ?_
    refine lv_iload_n hx hb d_X_shareOut_48 rfl (lv_at hl 5 rfl) ?_
    refine lv_iload hx hb d_X_shareOut_49 (lv_at hl 0 rfl) ?_
    refine lv_i2l hx hb d_X_shareOut_51 rfl ?_
    refine lv_lload hx hb d_X_shareOut_52 (lv_at hl 1 rfl) ?_
    refine W.lcmp hx hb d_X_shareOut_54 ?_
    refine lv_if_ge (tgt := 65) hx hb d_X_shareOut_55 (by decide) (fun c_9 => ?_) (fun c_9 => ?_)
    · skip
      refine lv_lload hx hb d_X_shareOut_65 (lv_at hl 2 rfl) ?_
      obtain ⟨x_10, ex_10⟩ : ∃ z9, z9 = xT' x_7 i k v_3 := ⟨_, rfl⟩
      refine wr_last (E' := xE g ad L x_10) hx hb hK hP hJ hS (8 + 2 * i) 0 (by omega) (xE_stk g ad L x_7 hi_i) rfl k rfl (by omega) (by omega) (by rw [ex_10]; exact xU_T g ad L x_7 hi_i k v_3) d_X_shareOut_67 (fun H locs hP hS => ?_)
      refine lv_iinc (v := nI (i + 1)) (lv' := [(9, .int (nI (i + 1))), (7, .long v_4), (5, .long v_3), (3, .long v_2), (2, .int (nI L)), (1, .int (nI k)), (0, .ref (ad 0))]) hx hb d_X_shareOut_68 hl (k := 0) rfl (nI_1 i) (by decide) rfl (fun ls hl => ?_)
      refine lv_goto (tgt := 32) hx hb d_X_shareOut_71 (by decide) ?_
      subst ex_7
      subst ex_10
      exact ih_i _ _ _ ⟨i + 1, by omega, (by (try simp only [x_shareN, if_pos c_9]); exact hP), hS, lv_sub hl [0, 1, 2, 3, 4, 5, 6] (by (try simp only [x_shareN, if_pos c_9]); rfl)⟩
    · skip
      refine lv_lload hx hb d_X_shareOut_58 (lv_at hl 2 rfl) ?_
      refine lv_lconst (v := 1) hx hb d_X_shareOut_60 (by decide) ?_
      refine lv_ladd hx hb d_X_shareOut_61 ?_
      refine lv_goto (tgt := 67) hx hb d_X_shareOut_62 (by decide) ?_
      obtain ⟨x_11, ex_11⟩ : ∃ z9, z9 = xT' x_7 i k (v_3 + 1) := ⟨_, rfl⟩
      refine wr_last (E' := xE g ad L x_11) hx hb hK hP hJ hS (8 + 2 * i) 0 (by omega) (xE_stk g ad L x_7 hi_i) rfl k rfl (by omega) (by omega) (by rw [ex_11]; exact xU_T g ad L x_7 hi_i k (v_3 + 1)) d_X_shareOut_67 (fun H locs hP hS => ?_)
      refine lv_iinc (v := nI (i + 1)) (lv' := [(9, .int (nI (i + 1))), (7, .long v_4), (5, .long v_3), (3, .long v_2), (2, .int (nI L)), (1, .int (nI k)), (0, .ref (ad 0))]) hx hb d_X_shareOut_68 hl (k := 0) rfl (nI_1 i) (by decide) rfl (fun ls hl => ?_)
      refine lv_goto (tgt := 32) hx hb d_X_shareOut_71 (by decide) ?_
      subst ex_7
      subst ex_11
      exact ih_i _ _ _ ⟨i + 1, by omega, (by (try simp only [x_shareN, if_neg c_9]); exact hP), hS, lv_sub hl [0, 1, 2, 3, 4, 5, 6] (by (try simp only [x_shareN, if_neg c_9]); rfl)⟩
set_option maxHeartbeats 4000000 in
set_option maxRecDepth 100000 in
theorem c_X_turn (l : Launch) (g : wG) (ad : Nat → Nat) {L : Nat} (hL : 1 ≤ L ∧ L ≤ 6) (x : xS) : CtI l y_X_turn ws_X_turn ({ frames := 2, cells := 0, slots := 0, locals := 56 }) g (16 + 2 * L) ad (xE g ad L x) (xE g ad L (x_turn L x).2) [.ref (ad 0)] (x_turn L x).1 := by
  intro sz
  refine Met.ofW (cc := b_X_turn) (maxL := 2) (ret := (some .int)) (by decide +kernel) rfl ?_
  intro p e s m args below meth c s₁ B hml hv
  obtain ⟨rfl, hsz, hP, hK, hN, hJ⟩ := hv
  have hx := B.exec
  have hb := B.bytes
  have hr := B.returns
  have hts0 := atoms_spec (ws := ws_X_turn) B.pre
  have hts : ∀ w ∈ tb, w.before _ s = true := fun w h => hts0 w (List.mem_cons_of_mem _ h)
  have hown : s.vm.findClass "HeapSteps" = some m.cls := findClass_of_methodNamed B.named
  have hlocks := B.notSynchronized
  subst hsz
  have hS : va_S (wA (16 + 2 * L) ad s.heap.size) s.heap s.heap [] := va_S.rf
  have hl := lv_entry ([.ref (ad 0)]) (n := 2) (Nat.le_of_ble_eq_true rfl)
  rw [lg_entry_eq]
  generalize (lg_sl ([.ref (ad 0)]) ++ List.replicate (2 - (lg_sl ([.ref (ad 0)])).length) Slot.unset).toArray = ls at hl ⊢
  have hl : lv_has ls 2 [(0, .ref (ad 0))] := hl
  refine lv_iconst (v := 0) hx hb d_X_turn_0 (by decide) ?_
  refine lv_istore_n (lv' := [(1, .int 0), (0, .ref (ad 0))]) hx hb d_X_turn_1 rfl hl (by decide) rfl (fun ls hl => ?_)
  refine lv_iload_n hx hb d_X_turn_2 rfl (lv_at hl 0 rfl) ?_
  refine lv_iconst (v := 5) hx hb d_X_turn_3 (by decide) ?_
  refine lv_icmp_ge (tgt := 18) hx hb d_X_turn_4 (by decide) (fun c_1 => absurd c_1 (by decide)) (fun c_1 => ?_)
  refine lv_aload_n hx hb d_X_turn_7 rfl (lv_at hl 1 rfl) ?_
  refine lv_iload_n hx hb d_X_turn_8 rfl (lv_at hl 0 rfl) ?_
  refine wc_v (va_runV (As := [.int 0]) (rest := []) ⟨hx, hb, hml, hown, hts⟩ (c_X_shareOut l g ad hL x 0 (by omega) _) (cwV 1 hts (gd_V tw_306 tw_308 tw_9 tw_24 tw_309) rfl rfl rfl (by decide +kernel) ⟨Nat.le_of_ble_eq_true rfl, Nat.le_of_ble_eq_true rfl⟩) (wp_V hK hN hP hJ (0) (by omega) rfl rfl) rfl rfl hl.1 rfl (lv_room (Nat.le_of_ble_eq_true rfl)) d_X_turn_9 ⟨Nat.zero_le _, Nat.zero_le _⟩) hS (fun H locs hP hS => ?_)
  obtain ⟨x_2, ex_2⟩ : ∃ z9, z9 = x_share L x 0 := ⟨_, rfl⟩
  rw [← ex_2] at hP
  refine lv_iinc (v := 1) (lv' := [(1, .int 1), (0, .ref (ad 0))]) hx hb d_X_turn_12 hl (k := 0) rfl (by decide) (by decide) rfl (fun ls hl => ?_)
  refine lv_goto (tgt := 2) hx hb d_X_turn_15 (by decide) ?_
  refine lv_iload_n hx hb d_X_turn_2 rfl (lv_at hl 0 rfl) ?_
  refine lv_iconst (v := 5) hx hb d_X_turn_3 (by decide) ?_
  refine lv_icmp_ge (tgt := 18) hx hb d_X_turn_4 (by decide) (fun c_3 => absurd c_3 (by decide)) (fun c_3 => ?_)
  refine lv_aload_n hx hb d_X_turn_7 rfl (lv_at hl 1 rfl) ?_
  refine lv_iload_n hx hb d_X_turn_8 rfl (lv_at hl 0 rfl) ?_
  refine wc_v (va_runV (As := [.int 1]) (rest := []) ⟨hx, hb, hml, hown, hts⟩ (c_X_shareOut l g ad hL x_2 1 (by omega) _) (cwV 1 hts (gd_V tw_306 tw_308 tw_9 tw_24 tw_309) rfl rfl rfl (by decide +kernel) ⟨Nat.le_of_ble_eq_true rfl, Nat.le_of_ble_eq_true rfl⟩) (wp_V hK hN hP hJ (0) (by omega) rfl rfl) rfl rfl hl.1 rfl (lv_room (Nat.le_of_ble_eq_true rfl)) d_X_turn_9 ⟨Nat.zero_le _, Nat.zero_le _⟩) hS (fun H locs hP hS => ?_)
  obtain ⟨x_4, ex_4⟩ : ∃ z9, z9 = x_share L x_2 1 := ⟨_, rfl⟩
  rw [← ex_4] at hP
  refine lv_iinc (v := 2) (lv' := [(1, .int 2), (0, .ref (ad 0))]) hx hb d_X_turn_12 hl (k := 0) rfl (by decide) (by decide) rfl (fun ls hl => ?_)
  refine lv_goto (tgt := 2) hx hb d_X_turn_15 (by decide) ?_
  refine lv_iload_n hx hb d_X_turn_2 rfl (lv_at hl 0 rfl) ?_
  refine lv_iconst (v := 5) hx hb d_X_turn_3 (by decide) ?_
  refine lv_icmp_ge (tgt := 18) hx hb d_X_turn_4 (by decide) (fun c_5 => absurd c_5 (by decide)) (fun c_5 => ?_)
  refine lv_aload_n hx hb d_X_turn_7 rfl (lv_at hl 1 rfl) ?_
  refine lv_iload_n hx hb d_X_turn_8 rfl (lv_at hl 0 rfl) ?_
  refine wc_v (va_runV (As := [.int 2]) (rest := []) ⟨hx, hb, hml, hown, hts⟩ (c_X_shareOut l g ad hL x_4 2 (by omega) _) (cwV 1 hts (gd_V tw_306 tw_308 tw_9 tw_24 tw_309) rfl rfl rfl (by decide +kernel) ⟨Nat.le_of_ble_eq_true rfl, Nat.le_of_ble_eq_true rfl⟩) (wp_V hK hN hP hJ (0) (by omega) rfl rfl) rfl rfl hl.1 rfl (lv_room (Nat.le_of_ble_eq_true rfl)) d_X_turn_9 ⟨Nat.zero_le _, Nat.zero_le _⟩) hS (fun H locs hP hS => ?_)
  obtain ⟨x_6, ex_6⟩ : ∃ z9, z9 = x_share L x_4 2 := ⟨_, rfl⟩
  rw [← ex_6] at hP
  refine lv_iinc (v := 3) (lv' := [(1, .int 3), (0, .ref (ad 0))]) hx hb d_X_turn_12 hl (k := 0) rfl (by decide) (by decide) rfl (fun ls hl => ?_)
  refine lv_goto (tgt := 2) hx hb d_X_turn_15 (by decide) ?_
  refine lv_iload_n hx hb d_X_turn_2 rfl (lv_at hl 0 rfl) ?_
  refine lv_iconst (v := 5) hx hb d_X_turn_3 (by decide) ?_
  refine lv_icmp_ge (tgt := 18) hx hb d_X_turn_4 (by decide) (fun c_7 => absurd c_7 (by decide)) (fun c_7 => ?_)
  refine lv_aload_n hx hb d_X_turn_7 rfl (lv_at hl 1 rfl) ?_
  refine lv_iload_n hx hb d_X_turn_8 rfl (lv_at hl 0 rfl) ?_
  refine wc_v (va_runV (As := [.int 3]) (rest := []) ⟨hx, hb, hml, hown, hts⟩ (c_X_shareOut l g ad hL x_6 3 (by omega) _) (cwV 1 hts (gd_V tw_306 tw_308 tw_9 tw_24 tw_309) rfl rfl rfl (by decide +kernel) ⟨Nat.le_of_ble_eq_true rfl, Nat.le_of_ble_eq_true rfl⟩) (wp_V hK hN hP hJ (0) (by omega) rfl rfl) rfl rfl hl.1 rfl (lv_room (Nat.le_of_ble_eq_true rfl)) d_X_turn_9 ⟨Nat.zero_le _, Nat.zero_le _⟩) hS (fun H locs hP hS => ?_)
  obtain ⟨x_8, ex_8⟩ : ∃ z9, z9 = x_share L x_6 3 := ⟨_, rfl⟩
  rw [← ex_8] at hP
  refine lv_iinc (v := 4) (lv' := [(1, .int 4), (0, .ref (ad 0))]) hx hb d_X_turn_12 hl (k := 0) rfl (by decide) (by decide) rfl (fun ls hl => ?_)
  refine lv_goto (tgt := 2) hx hb d_X_turn_15 (by decide) ?_
  refine lv_iload_n hx hb d_X_turn_2 rfl (lv_at hl 0 rfl) ?_
  refine lv_iconst (v := 5) hx hb d_X_turn_3 (by decide) ?_
  refine lv_icmp_ge (tgt := 18) hx hb d_X_turn_4 (by decide) (fun c_9 => absurd c_9 (by decide)) (fun c_9 => ?_)
  refine lv_aload_n hx hb d_X_turn_7 rfl (lv_at hl 1 rfl) ?_
  refine lv_iload_n hx hb d_X_turn_8 rfl (lv_at hl 0 rfl) ?_
  refine wc_v (va_runV (As := [.int 4]) (rest := []) ⟨hx, hb, hml, hown, hts⟩ (c_X_shareOut l g ad hL x_8 4 (by omega) _) (cwV 1 hts (gd_V tw_306 tw_308 tw_9 tw_24 tw_309) rfl rfl rfl (by decide +kernel) ⟨Nat.le_of_ble_eq_true rfl, Nat.le_of_ble_eq_true rfl⟩) (wp_V hK hN hP hJ (0) (by omega) rfl rfl) rfl rfl hl.1 rfl (lv_room (Nat.le_of_ble_eq_true rfl)) d_X_turn_9 ⟨Nat.zero_le _, Nat.zero_le _⟩) hS (fun H locs hP hS => ?_)
  obtain ⟨x_10, ex_10⟩ : ∃ z9, z9 = x_share L x_8 4 := ⟨_, rfl⟩
  rw [← ex_10] at hP
  refine lv_iinc (v := 5) (lv' := [(1, .int 5), (0, .ref (ad 0))]) hx hb d_X_turn_12 hl (k := 0) rfl (by decide) (by decide) rfl (fun ls hl => ?_)
  refine lv_goto (tgt := 2) hx hb d_X_turn_15 (by decide) ?_
  refine lv_iload_n hx hb d_X_turn_2 rfl (lv_at hl 0 rfl) ?_
  refine lv_iconst (v := 5) hx hb d_X_turn_3 (by decide) ?_
  refine lv_icmp_ge (tgt := 18) hx hb d_X_turn_4 (by decide) (fun c_11 => ?_) (fun c_11 => absurd (by decide) c_11)
  refine lv_aload_n hx hb d_X_turn_18 rfl (lv_at hl 1 rfl) ?_
  refine lv_dup hx hb d_X_turn_19 rfl ?_
  refine wr_get hx hb hts in_X hown hK hP (0) (by omega) rfl rfl 9 (by decide) (hts _ tw_125) rfl d_X_turn_20 ?_
  refine lv_iconst (v := 1) hx hb d_X_turn_23 (by decide) ?_
  refine lv_iadd hx hb d_X_turn_24 ?_
  obtain ⟨x_12, ex_12⟩ : ∃ z9, z9 = xI' x_10 3 ((xI x_10 3) + 1) := ⟨_, rfl⟩
  refine wr_put (E' := xE g ad L x_12) hx hb hts in_X ty_X ty_X_ok n_X hown hK hP hJ hS (0) (by omega) rfl rfl 9 (by decide) (hts _ tw_125) rfl rfl rfl (Nat.le_of_ble_eq_true rfl) (by rw [ex_12]; exact xU_I g ad L x_10 3 (by decide) ((xI x_10 3) + 1)) d_X_turn_25 (fun H locs hP hS => ?_)
  refine lv_aload_n hx hb d_X_turn_28 rfl (lv_at hl 1 rfl) ?_
  refine wr_get hx hb hts in_X hown hK hP (0) (by omega) rfl rfl 9 (by decide) (hts _ tw_125) rfl d_X_turn_29 ?_
  subst ex_2
  subst ex_4
  subst ex_6
  subst ex_8
  subst ex_10
  subst ex_12
  exact W.iret hx hb hr (fun t ht hW => ⟨⟨_, (), rfl, by (try simp only [x_turn]); first | done | rfl, by dsimp only; rw [ht]; (try simp only [x_turn]); exact hP⟩, hS.F ht⟩) hS.2.2 d_X_turn_32
set_option maxHeartbeats 4000000 in
set_option maxRecDepth 100000 in
theorem c_X_batch (l : Launch) (g : wG) (ad : Nat → Nat) {L : Nat} (hL : 1 ≤ L ∧ L ≤ 6) (x : xS) : CtL l y_X_batch ws_X_batch ({ frames := 1, cells := 0, slots := 0, locals := 23 }) g (16 + 2 * L) ad (xE g ad L x) (xE g ad L (x_batchN x L).2) [.ref (ad 0)] (x_batchN x L).1 := by
  intro sz
  refine Met.ofW (cc := b_X_batch) (maxL := 8) (ret := (some .long)) (by decide +kernel) rfl ?_
  intro p e s m args below meth c s₁ B hml hv
  obtain ⟨rfl, hsz, hP, hK, hN, hJ⟩ := hv
  have hx := B.exec
  have hb := B.bytes
  have hr := B.returns
  have hts0 := atoms_spec (ws := ws_X_batch) B.pre
  have hts : ∀ w ∈ tb, w.before _ s = true := fun w h => hts0 w (List.mem_cons_of_mem _ h)
  have hown : s.vm.findClass "HeapSteps" = some m.cls := findClass_of_methodNamed B.named
  have hlocks := B.notSynchronized
  subst hsz
  have hS : va_S (wA (16 + 2 * L) ad s.heap.size) s.heap s.heap [] := va_S.rf
  have hl := lv_entry ([.ref (ad 0)]) (n := 8) (Nat.le_of_ble_eq_true rfl)
  rw [lg_entry_eq]
  generalize (lg_sl ([.ref (ad 0)]) ++ List.replicate (8 - (lg_sl ([.ref (ad 0)])).length) Slot.unset).toArray = ls at hl ⊢
  have hl : lv_has ls 8 [(0, .ref (ad 0))] := hl
  refine lv_lconst (v := 0) hx hb d_X_batch_0 (by decide) ?_
  refine lv_lstore_n (lv' := [(1, .long 0), (0, .ref (ad 0))]) hx hb d_X_batch_1 rfl hl (by decide) rfl (fun ls hl => ?_)
  refine lv_aload_n hx hb d_X_batch_2 rfl (lv_at hl 1 rfl) ?_
  refine wr_get hx hb hts in_X hown hK hP (0) (by omega) rfl rfl 0 (by decide) (hts _ tw_116) rfl d_X_batch_3 ?_
  refine lv_astore_n (lv' := [(3, .ref (ad 6)), (1, .long 0), (0, .ref (ad 0))]) hx hb d_X_batch_6 rfl hl (by decide) rfl (fun ls hl => ?_)
  refine lv_aload_n hx hb d_X_batch_7 rfl (lv_at hl 0 rfl) ?_
  refine wr_alen (v := nI L) hx hb hK hP (6) 2 (by omega) rfl rfl rfl d_X_batch_8 ?_
  refine lv_istore (lv' := [(4, .int (nI L)), (3, .ref (ad 6)), (1, .long 0), (0, .ref (ad 0))]) hx hb d_X_batch_9 hl (by decide) rfl (fun ls hl => ?_)
  refine lv_iconst (v := 0) hx hb d_X_batch_11 (by decide) ?_
  refine lv_istore (lv' := [(5, .int 0), (4, .int (nI L)), (3, .ref (ad 6)), (1, .long 0), (0, .ref (ad 0))]) hx hb d_X_batch_12 hl (by decide) rfl (fun ls hl => ?_)
  refine wl_loop (pc := 14) (fun fu H locs ls => ∃ i : Nat, i + fu = L ∧ va_P g.1 vwCl (wo (16 + 2 * L) ad (xE g ad L ((x_batchN x i).2))) H ∧ va_S (wA (16 + 2 * L) ad s.heap.size) s.heap H locs ∧ lv_has ls 8 [(5, .int (nI i)), (4, .int (nI L)), (3, .ref (ad 6)), (1, .long ((x_batchN x i).1)), (0, .ref (ad 0))]) ?_ ?_ L _ _ _ ⟨0, by omega, hP, hS, lv_sub hl [0, 1, 2, 3, 4] rfl⟩
  · intro H locs ls hI
    obtain ⟨i, hi, hP, hS, hl⟩ := hI
    have hT_i : i = L := by omega
    try rw [hT_i] at hP
    try rw [hT_i] at hl
    obtain ⟨x_1, ex_1⟩ : ∃ z9, z9 = (x_batchN x L).2 := ⟨_, rfl⟩
    rw [← ex_1] at hP
    refine lv_iload hx hb d_X_batch_14 (lv_at hl 0 rfl) ?_
    refine lv_iload hx hb d_X_batch_16 (lv_at hl 1 rfl) ?_
    refine lv_icmp_ge (tgt := 83) hx hb d_X_batch_18 (by decide) (fun c_2 => ?_) (fun c_2 => absurd (nI_le (by omega) (by omega)) c_2)
    refine lv_lload_n hx hb d_X_batch_83 rfl (lv_at hl 3 rfl) ?_
    subst ex_1
    exact W.lret hx hb hr (fun t ht hW => ⟨⟨_, (), rfl, by skip; first | done | rfl, by dsimp only; rw [ht]; skip; exact hP⟩, hS.F ht⟩) hS.2.2 d_X_batch_84
  · intro fu ih_i H locs ls hI
    obtain ⟨i, hi, hP, hS, hl⟩ := hI
    have hi_i : i < L := by omega
    obtain ⟨x_3, ex_3⟩ : ∃ z9, z9 = (x_batchN x i).2 := ⟨_, rfl⟩
    rw [← ex_3] at hP
    refine lv_iload hx hb d_X_batch_14 (lv_at hl 0 rfl) ?_
    refine lv_iload hx hb d_X_batch_16 (lv_at hl 1 rfl) ?_
    refine lv_icmp_ge (tgt := 83) hx hb d_X_batch_18 (by decide) (fun c_4 => absurd c_4 (nI_ge hi_i (by omega))) (fun c_4 => ?_)
    refine lv_aload_n hx hb d_X_batch_21 rfl (lv_at hl 2 rfl) ?_
    refine lv_iload hx hb d_X_batch_22 (lv_at hl 0 rfl) ?_
    refine wr_aldq hx hb hK hP (6) 2 (by omega) rfl rfl i rfl (by omega) (by omega) (v := ad (7 + 2 * i)) (if_pos hi_i) d_X_batch_24 ?_
    refine lv_astore (lv' := [(6, .ref (ad (7 + 2 * i))), (5, .int (nI i)), (4, .int (nI L)), (3, .ref (ad 6)), (1, .long ((x_batchN x i).1)), (0, .ref (ad 0))]) hx hb d_X_batch_25 hl (by decide) rfl (fun ls hl => ?_)
    refine lv_lload_n hx hb d_X_batch_27 rfl (lv_at hl 4 rfl) ?_
    refine lv_aload hx hb d_X_batch_28 (lv_at hl 0 rfl) ?_
    refine wc_l (va_runV (As := []) (rest := [.long ((x_batchN x i).1)]) ⟨hx, hb, hml, hown, hts⟩ (c_Y_mass l g ad hL x_3 hi_i _) (cwV 0 hts (gd_V tw_330 tw_224 tw_225 tw_26 tw_226) rfl rfl rfl (by decide +kernel) ⟨Nat.le_of_ble_eq_true rfl, Nat.le_of_ble_eq_true rfl⟩) (wp_V hK hN hP hJ (7 + 2 * i) (by omega) (xE_lay g ad L x_3 hi_i) rfl) rfl rfl hl.1 rfl (lv_room (Nat.le_of_ble_eq_true rfl)) d_X_batch_30 ⟨Nat.zero_le _, Nat.zero_le _⟩) hS (fun H locs hP hS => ?_)
    refine lv_ladd hx hb d_X_batch_33 ?_
    refine lv_topl (fun v_5 ev_5 => ?_)
    refine lv_lstore_n (lv' := [(1, .long v_5), (6, .ref (ad (7 + 2 * i))), (5, .int (nI i)), (4, .int (nI L)), (3, .ref (ad 6)), (0, .ref (ad 0))]) hx hb d_X_batch_34 rfl hl (by decide) rfl (fun ls hl => ?_)
    refine lv_iconst (v := 0) hx hb d_X_batch_35 (by decide) ?_
    refine lv_istore (lv' := [(7, .int 0), (1, .long v_5), (6, .ref (ad (7 + 2 * i))), (5, .int (nI i)), (4, .int (nI L)), (3, .ref (ad 6)), (0, .ref (ad 0))]) hx hb d_X_batch_36 hl (by decide) rfl (fun ls hl => ?_)
    refine lv_iload hx hb d_X_batch_38 (lv_at hl 0 rfl) ?_
    refine lv_iconst (v := 5) hx hb d_X_batch_40 (by decide) ?_
    refine lv_icmp_ge (tgt := 77) hx hb d_X_batch_41 (by decide) (fun c_6 => absurd c_6 (by decide)) (fun c_6 => ?_)
    refine lv_aload_n hx hb d_X_batch_44 rfl (lv_at hl 6 rfl) ?_
    refine wr_get hx hb hts in_X hown hK hP (0) (by omega) rfl rfl 5 (by decide) (hts _ tw_121) rfl d_X_batch_45 ?_
    refine lv_iload hx hb d_X_batch_48 (lv_at hl 0 rfl) ?_
    refine lv_dup2_11 hx hb d_X_batch_50 rfl rfl ?_
    refine wr_lald hx hb hK hP (5) 0 (by omega) rfl rfl 0 (by decide) (by omega) (by omega) d_X_batch_51 ?_
    refine lv_aload hx hb d_X_batch_52 (lv_at hl 2 rfl) ?_
    refine wr_get hx hb hts in_Y hown hK hP (7 + 2 * i) (by omega) (xE_lay g ad L x_3 hi_i) rfl 0 (by decide) (hts _ tw_79) rfl d_X_batch_54 ?_
    refine lv_iload hx hb d_X_batch_57 (lv_at hl 0 rfl) ?_
    refine wr_lald hx hb hK hP (8 + 2 * i) 0 (by omega) (xE_stk g ad L x_3 hi_i) rfl 0 (by decide) (by omega) (by omega) d_X_batch_59 ?_
    refine lv_ladd hx hb d_X_batch_60 ?_
    obtain ⟨x_7, ex_7⟩ : ∃ z9, z9 = xO' x_3 2 0 ((xO x_3 2 0) + (xT x_3 i 0)) := ⟨_, rfl⟩
    refine wr_last (E' := xE g ad L x_7) hx hb hK hP hJ hS (5) 0 (by omega) rfl rfl 0 (by decide) (by omega) (by omega) (by rw [ex_7]; exact xU_O g ad L x_3 2 0 (by decide) ((xO x_3 2 0) + (xT x_3 i 0))) d_X_batch_61 (fun H locs hP hS => ?_)
    refine lv_aload hx hb d_X_batch_62 (lv_at hl 2 rfl) ?_
    refine wr_get hx hb hts in_Y hown hK hP (7 + 2 * i) (by omega) (xE_lay g ad L x_7 hi_i) rfl 0 (by decide) (hts _ tw_79) rfl d_X_batch_64 ?_
    refine lv_iload hx hb d_X_batch_67 (lv_at hl 0 rfl) ?_
    refine lv_lconst (v := 0) hx hb d_X_batch_69 (by decide) ?_
    obtain ⟨x_8, ex_8⟩ : ∃ z9, z9 = xT' x_7 i 0 0 := ⟨_, rfl⟩
    refine wr_last (E' := xE g ad L x_8) hx hb hK hP hJ hS (8 + 2 * i) 0 (by omega) (xE_stk g ad L x_7 hi_i) rfl 0 (by decide) (by omega) (by omega) (by rw [ex_8]; exact xU_T g ad L x_7 hi_i 0 0) d_X_batch_70 (fun H locs hP hS => ?_)
    refine lv_iinc (v := 1) (lv' := [(7, .int 1), (1, .long v_5), (6, .ref (ad (7 + 2 * i))), (5, .int (nI i)), (4, .int (nI L)), (3, .ref (ad 6)), (0, .ref (ad 0))]) hx hb d_X_batch_71 hl (k := 0) rfl (by decide) (by decide) rfl (fun ls hl => ?_)
    refine lv_goto (tgt := 38) hx hb d_X_batch_74 (by decide) ?_
    refine lv_iload hx hb d_X_batch_38 (lv_at hl 0 rfl) ?_
    refine lv_iconst (v := 5) hx hb d_X_batch_40 (by decide) ?_
    refine lv_icmp_ge (tgt := 77) hx hb d_X_batch_41 (by decide) (fun c_9 => absurd c_9 (by decide)) (fun c_9 => ?_)
    refine lv_aload_n hx hb d_X_batch_44 rfl (lv_at hl 6 rfl) ?_
    refine wr_get hx hb hts in_X hown hK hP (0) (by omega) rfl rfl 5 (by decide) (hts _ tw_121) rfl d_X_batch_45 ?_
    refine lv_iload hx hb d_X_batch_48 (lv_at hl 0 rfl) ?_
    refine lv_dup2_11 hx hb d_X_batch_50 rfl rfl ?_
    refine wr_lald hx hb hK hP (5) 0 (by omega) rfl rfl 1 (by decide) (by omega) (by omega) d_X_batch_51 ?_
    refine lv_aload hx hb d_X_batch_52 (lv_at hl 2 rfl) ?_
    refine wr_get hx hb hts in_Y hown hK hP (7 + 2 * i) (by omega) (xE_lay g ad L x_8 hi_i) rfl 0 (by decide) (hts _ tw_79) rfl d_X_batch_54 ?_
    refine lv_iload hx hb d_X_batch_57 (lv_at hl 0 rfl) ?_
    refine wr_lald hx hb hK hP (8 + 2 * i) 0 (by omega) (xE_stk g ad L x_8 hi_i) rfl 1 (by decide) (by omega) (by omega) d_X_batch_59 ?_
    refine lv_ladd hx hb d_X_batch_60 ?_
    obtain ⟨x_10, ex_10⟩ : ∃ z9, z9 = xO' x_8 2 1 ((xO x_8 2 1) + (xT x_8 i 1)) := ⟨_, rfl⟩
    refine wr_last (E' := xE g ad L x_10) hx hb hK hP hJ hS (5) 0 (by omega) rfl rfl 1 (by decide) (by omega) (by omega) (by rw [ex_10]; exact xU_O g ad L x_8 2 1 (by decide) ((xO x_8 2 1) + (xT x_8 i 1))) d_X_batch_61 (fun H locs hP hS => ?_)
    refine lv_aload hx hb d_X_batch_62 (lv_at hl 2 rfl) ?_
    refine wr_get hx hb hts in_Y hown hK hP (7 + 2 * i) (by omega) (xE_lay g ad L x_10 hi_i) rfl 0 (by decide) (hts _ tw_79) rfl d_X_batch_64 ?_
    refine lv_iload hx hb d_X_batch_67 (lv_at hl 0 rfl) ?_
    refine lv_lconst (v := 0) hx hb d_X_batch_69 (by decide) ?_
    obtain ⟨x_11, ex_11⟩ : ∃ z9, z9 = xT' x_10 i 1 0 := ⟨_, rfl⟩
    refine wr_last (E' := xE g ad L x_11) hx hb hK hP hJ hS (8 + 2 * i) 0 (by omega) (xE_stk g ad L x_10 hi_i) rfl 1 (by decide) (by omega) (by omega) (by rw [ex_11]; exact xU_T g ad L x_10 hi_i 1 0) d_X_batch_70 (fun H locs hP hS => ?_)
    refine lv_iinc (v := 2) (lv' := [(7, .int 2), (1, .long v_5), (6, .ref (ad (7 + 2 * i))), (5, .int (nI i)), (4, .int (nI L)), (3, .ref (ad 6)), (0, .ref (ad 0))]) hx hb d_X_batch_71 hl (k := 0) rfl (by decide) (by decide) rfl (fun ls hl => ?_)
    refine lv_goto (tgt := 38) hx hb d_X_batch_74 (by decide) ?_
    refine lv_iload hx hb d_X_batch_38 (lv_at hl 0 rfl) ?_
    refine lv_iconst (v := 5) hx hb d_X_batch_40 (by decide) ?_
    refine lv_icmp_ge (tgt := 77) hx hb d_X_batch_41 (by decide) (fun c_12 => absurd c_12 (by decide)) (fun c_12 => ?_)
    refine lv_aload_n hx hb d_X_batch_44 rfl (lv_at hl 6 rfl) ?_
    refine wr_get hx hb hts in_X hown hK hP (0) (by omega) rfl rfl 5 (by decide) (hts _ tw_121) rfl d_X_batch_45 ?_
    refine lv_iload hx hb d_X_batch_48 (lv_at hl 0 rfl) ?_
    refine lv_dup2_11 hx hb d_X_batch_50 rfl rfl ?_
    refine wr_lald hx hb hK hP (5) 0 (by omega) rfl rfl 2 (by decide) (by omega) (by omega) d_X_batch_51 ?_
    refine lv_aload hx hb d_X_batch_52 (lv_at hl 2 rfl) ?_
    refine wr_get hx hb hts in_Y hown hK hP (7 + 2 * i) (by omega) (xE_lay g ad L x_11 hi_i) rfl 0 (by decide) (hts _ tw_79) rfl d_X_batch_54 ?_
    refine lv_iload hx hb d_X_batch_57 (lv_at hl 0 rfl) ?_
    refine wr_lald hx hb hK hP (8 + 2 * i) 0 (by omega) (xE_stk g ad L x_11 hi_i) rfl 2 (by decide) (by omega) (by omega) d_X_batch_59 ?_
    refine lv_ladd hx hb d_X_batch_60 ?_
    obtain ⟨x_13, ex_13⟩ : ∃ z9, z9 = xO' x_11 2 2 ((xO x_11 2 2) + (xT x_11 i 2)) := ⟨_, rfl⟩
    refine wr_last (E' := xE g ad L x_13) hx hb hK hP hJ hS (5) 0 (by omega) rfl rfl 2 (by decide) (by omega) (by omega) (by rw [ex_13]; exact xU_O g ad L x_11 2 2 (by decide) ((xO x_11 2 2) + (xT x_11 i 2))) d_X_batch_61 (fun H locs hP hS => ?_)
    refine lv_aload hx hb d_X_batch_62 (lv_at hl 2 rfl) ?_
    refine wr_get hx hb hts in_Y hown hK hP (7 + 2 * i) (by omega) (xE_lay g ad L x_13 hi_i) rfl 0 (by decide) (hts _ tw_79) rfl d_X_batch_64 ?_
    refine lv_iload hx hb d_X_batch_67 (lv_at hl 0 rfl) ?_
    refine lv_lconst (v := 0) hx hb d_X_batch_69 (by decide) ?_
    obtain ⟨x_14, ex_14⟩ : ∃ z9, z9 = xT' x_13 i 2 0 := ⟨_, rfl⟩
    refine wr_last (E' := xE g ad L x_14) hx hb hK hP hJ hS (8 + 2 * i) 0 (by omega) (xE_stk g ad L x_13 hi_i) rfl 2 (by decide) (by omega) (by omega) (by rw [ex_14]; exact xU_T g ad L x_13 hi_i 2 0) d_X_batch_70 (fun H locs hP hS => ?_)
    refine lv_iinc (v := 3) (lv' := [(7, .int 3), (1, .long v_5), (6, .ref (ad (7 + 2 * i))), (5, .int (nI i)), (4, .int (nI L)), (3, .ref (ad 6)), (0, .ref (ad 0))]) hx hb d_X_batch_71 hl (k := 0) rfl (by decide) (by decide) rfl (fun ls hl => ?_)
    refine lv_goto (tgt := 38) hx hb d_X_batch_74 (by decide) ?_
    refine lv_iload hx hb d_X_batch_38 (lv_at hl 0 rfl) ?_
    refine lv_iconst (v := 5) hx hb d_X_batch_40 (by decide) ?_
    refine lv_icmp_ge (tgt := 77) hx hb d_X_batch_41 (by decide) (fun c_15 => absurd c_15 (by decide)) (fun c_15 => ?_)
    refine lv_aload_n hx hb d_X_batch_44 rfl (lv_at hl 6 rfl) ?_
    refine wr_get hx hb hts in_X hown hK hP (0) (by omega) rfl rfl 5 (by decide) (hts _ tw_121) rfl d_X_batch_45 ?_
    refine lv_iload hx hb d_X_batch_48 (lv_at hl 0 rfl) ?_
    refine lv_dup2_11 hx hb d_X_batch_50 rfl rfl ?_
    refine wr_lald hx hb hK hP (5) 0 (by omega) rfl rfl 3 (by decide) (by omega) (by omega) d_X_batch_51 ?_
    refine lv_aload hx hb d_X_batch_52 (lv_at hl 2 rfl) ?_
    refine wr_get hx hb hts in_Y hown hK hP (7 + 2 * i) (by omega) (xE_lay g ad L x_14 hi_i) rfl 0 (by decide) (hts _ tw_79) rfl d_X_batch_54 ?_
    refine lv_iload hx hb d_X_batch_57 (lv_at hl 0 rfl) ?_
    refine wr_lald hx hb hK hP (8 + 2 * i) 0 (by omega) (xE_stk g ad L x_14 hi_i) rfl 3 (by decide) (by omega) (by omega) d_X_batch_59 ?_
    refine lv_ladd hx hb d_X_batch_60 ?_
    obtain ⟨x_16, ex_16⟩ : ∃ z9, z9 = xO' x_14 2 3 ((xO x_14 2 3) + (xT x_14 i 3)) := ⟨_, rfl⟩
    refine wr_last (E' := xE g ad L x_16) hx hb hK hP hJ hS (5) 0 (by omega) rfl rfl 3 (by decide) (by omega) (by omega) (by rw [ex_16]; exact xU_O g ad L x_14 2 3 (by decide) ((xO x_14 2 3) + (xT x_14 i 3))) d_X_batch_61 (fun H locs hP hS => ?_)
    refine lv_aload hx hb d_X_batch_62 (lv_at hl 2 rfl) ?_
    refine wr_get hx hb hts in_Y hown hK hP (7 + 2 * i) (by omega) (xE_lay g ad L x_16 hi_i) rfl 0 (by decide) (hts _ tw_79) rfl d_X_batch_64 ?_
    refine lv_iload hx hb d_X_batch_67 (lv_at hl 0 rfl) ?_
    refine lv_lconst (v := 0) hx hb d_X_batch_69 (by decide) ?_
    obtain ⟨x_17, ex_17⟩ : ∃ z9, z9 = xT' x_16 i 3 0 := ⟨_, rfl⟩
    refine wr_last (E' := xE g ad L x_17) hx hb hK hP hJ hS (8 + 2 * i) 0 (by omega) (xE_stk g ad L x_16 hi_i) rfl 3 (by decide) (by omega) (by omega) (by rw [ex_17]; exact xU_T g ad L x_16 hi_i 3 0) d_X_batch_70 (fun H locs hP hS => ?_)
    refine lv_iinc (v := 4) (lv' := [(7, .int 4), (1, .long v_5), (6, .ref (ad (7 + 2 * i))), (5, .int (nI i)), (4, .int (nI L)), (3, .ref (ad 6)), (0, .ref (ad 0))]) hx hb d_X_batch_71 hl (k := 0) rfl (by decide) (by decide) rfl (fun ls hl => ?_)
    refine lv_goto (tgt := 38) hx hb d_X_batch_74 (by decide) ?_
    refine lv_iload hx hb d_X_batch_38 (lv_at hl 0 rfl) ?_
    refine lv_iconst (v := 5) hx hb d_X_batch_40 (by decide) ?_
    refine lv_icmp_ge (tgt := 77) hx hb d_X_batch_41 (by decide) (fun c_18 => absurd c_18 (by decide)) (fun c_18 => ?_)
    refine lv_aload_n hx hb d_X_batch_44 rfl (lv_at hl 6 rfl) ?_
    refine wr_get hx hb hts in_X hown hK hP (0) (by omega) rfl rfl 5 (by decide) (hts _ tw_121) rfl d_X_batch_45 ?_
    refine lv_iload hx hb d_X_batch_48 (lv_at hl 0 rfl) ?_
    refine lv_dup2_11 hx hb d_X_batch_50 rfl rfl ?_
    refine wr_lald hx hb hK hP (5) 0 (by omega) rfl rfl 4 (by decide) (by omega) (by omega) d_X_batch_51 ?_
    refine lv_aload hx hb d_X_batch_52 (lv_at hl 2 rfl) ?_
    refine wr_get hx hb hts in_Y hown hK hP (7 + 2 * i) (by omega) (xE_lay g ad L x_17 hi_i) rfl 0 (by decide) (hts _ tw_79) rfl d_X_batch_54 ?_
    refine lv_iload hx hb d_X_batch_57 (lv_at hl 0 rfl) ?_
    refine wr_lald hx hb hK hP (8 + 2 * i) 0 (by omega) (xE_stk g ad L x_17 hi_i) rfl 4 (by decide) (by omega) (by omega) d_X_batch_59 ?_
    refine lv_ladd hx hb d_X_batch_60 ?_
    obtain ⟨x_19, ex_19⟩ : ∃ z9, z9 = xO' x_17 2 4 ((xO x_17 2 4) + (xT x_17 i 4)) := ⟨_, rfl⟩
    refine wr_last (E' := xE g ad L x_19) hx hb hK hP hJ hS (5) 0 (by omega) rfl rfl 4 (by decide) (by omega) (by omega) (by rw [ex_19]; exact xU_O g ad L x_17 2 4 (by decide) ((xO x_17 2 4) + (xT x_17 i 4))) d_X_batch_61 (fun H locs hP hS => ?_)
    refine lv_aload hx hb d_X_batch_62 (lv_at hl 2 rfl) ?_
    refine wr_get hx hb hts in_Y hown hK hP (7 + 2 * i) (by omega) (xE_lay g ad L x_19 hi_i) rfl 0 (by decide) (hts _ tw_79) rfl d_X_batch_64 ?_
    refine lv_iload hx hb d_X_batch_67 (lv_at hl 0 rfl) ?_
    refine lv_lconst (v := 0) hx hb d_X_batch_69 (by decide) ?_
    obtain ⟨x_20, ex_20⟩ : ∃ z9, z9 = xT' x_19 i 4 0 := ⟨_, rfl⟩
    refine wr_last (E' := xE g ad L x_20) hx hb hK hP hJ hS (8 + 2 * i) 0 (by omega) (xE_stk g ad L x_19 hi_i) rfl 4 (by decide) (by omega) (by omega) (by rw [ex_20]; exact xU_T g ad L x_19 hi_i 4 0) d_X_batch_70 (fun H locs hP hS => ?_)
    refine lv_iinc (v := 5) (lv' := [(7, .int 5), (1, .long v_5), (6, .ref (ad (7 + 2 * i))), (5, .int (nI i)), (4, .int (nI L)), (3, .ref (ad 6)), (0, .ref (ad 0))]) hx hb d_X_batch_71 hl (k := 0) rfl (by decide) (by decide) rfl (fun ls hl => ?_)
    refine lv_goto (tgt := 38) hx hb d_X_batch_74 (by decide) ?_
    refine lv_iload hx hb d_X_batch_38 (lv_at hl 0 rfl) ?_
    refine lv_iconst (v := 5) hx hb d_X_batch_40 (by decide) ?_
    refine lv_icmp_ge (tgt := 77) hx hb d_X_batch_41 (by decide) (fun c_21 => ?_) (fun c_21 => absurd (by decide) c_21)
    refine lv_iinc (v := nI (i + 1)) (lv' := [(5, .int (nI (i + 1))), (7, .int 5), (1, .long v_5), (6, .ref (ad (7 + 2 * i))), (4, .int (nI L)), (3, .ref (ad 6)), (0, .ref (ad 0))]) hx hb d_X_batch_77 hl (k := 3) rfl (nI_1 i) (by decide) rfl (fun ls hl => ?_)
    refine lv_goto (tgt := 14) hx hb d_X_batch_80 (by decide) ?_
    subst ex_3
    subst ev_5
    subst ex_7
    subst ex_8
    subst ex_10
    subst ex_11
    subst ex_13
    subst ex_14
    subst ex_16
    subst ex_17
    subst ex_19
    subst ex_20
    exact ih_i _ _ _ ⟨i + 1, by omega, (by skip; exact hP), hS, lv_sub hl [0, 4, 5, 2, 6] (by skip; rfl)⟩
end
section
/-! THE REFERENCE'S CELLS, a picture of the SAME state: 0 this, 1 parts, 2 waters, 3 heats, 4 dry, 5 holds, 6 counts of rows, 7 their warmths, 8 their rates, 9 and 10 yields, 11 gone, 12 put, 13 taken -/
def mPut (x : xS) : Nat → Int64 := fun k => if k = 0 then xO x 1 0 + xO x 1 1 + xO x 1 2 else if k = 1 then xO x 1 3 else if k = 2 then xO x 1 4 else 0
def mTak (x : xS) : Nat → Int64 := fun k => if k = 0 then xO x 2 0 + xO x 2 1 + xO x 2 2 else if k = 1 then xO x 2 3 else if k = 2 then xO x 2 4 else 0
abbrev mF (ad : Nat → Nat) (L : Nat) (x : xS) : List Value := [.int (nI L), .ref (ad 1), .ref (ad 2), .ref (ad 3), .ref (ad 4), .ref (ad 5), .ref (ad 6), .ref (ad 7), .ref (ad 8), .ref (ad 9), .ref (ad 10), .int (xI x 0), .int (xI x 1), .int (xI x 4), .int (xI x 5), .int (xI x 6), .int (xI x 7), .long (xF x), .int (xI x 8), .long (Int32.toInt64 (xI x 2)), .int (xI x 3), .ref (ad 11), .ref (ad 12), .ref (ad 13)]
def mE (g : wG) (ad : Nat → Nat) (L : Nat) (x : xS) : Nat → va_E
  | 0 => .inr (ciM, mF ad L x)
  | 1 => .inl (g.2 tJ, 18, .inr (.inl (fun k => xT x (k / 3) (k % 3))))
  | 2 => .inl (g.2 tJ, 6, .inr (.inl (fun i => xT x i 3)))
  | 3 => .inl (g.2 tJ, 6, .inr (.inl (fun i => xT x i 4)))
  | 4 => .inl (g.2 tJ, 6, .inr (.inl (fun i => Int32.toInt64 (xB x i 0))))
  | 5 => .inl (g.2 tJ, 6, .inr (.inl (fun i => Int32.toInt64 (xB x i 1))))
  | 6 => .inl (g.2 tI, 3, .inl (fun p => xY x p 0))
  | 7 => .inl (g.2 tI, 12, .inl (fun k => xR x (k / 4) 0 (k % 4)))
  | 8 => .inl (g.2 tI, 12, .inl (fun k => xR x (k / 4) 1 (k % 4)))
  | 9 => .inl (g.2 tI, 3, .inl (fun p => xY x p 1))
  | 10 => .inl (g.2 tI, 3, .inl (fun p => xY x p 2))
  | 11 => .inl (g.2 tJ, 9, .inr (.inl (xO x 0)))
  | 12 => .inl (g.2 tJ, 3, .inr (.inl (mPut x)))
  | 13 => .inl (g.2 tJ, 3, .inr (.inl (mTak x)))
  | _ + 14 => .inr (0, [])
theorem m3 {l p : Nat} (hp : p < 3) : (3 * l + p) / 3 = l ∧ (3 * l + p) % 3 = p := by omega
theorem m4 {l p : Nat} (hp : p < 4) : (4 * l + p) / 4 = l ∧ (4 * l + p) % 4 = p := by omega
theorem mPA (x : xS) (l p : Nat) (hp : p < 3) : xT x ((3 * l + p) / 3) ((3 * l + p) % 3) = xT x l p := by
  rw [(m3 hp).1, (m3 hp).2]
theorem mRW (x : xS) (l p j : Nat) (hp : p < 4) : xR x ((4 * l + p) / 4) j ((4 * l + p) % 4) = xR x l j p := by
  rw [(m4 hp).1, (m4 hp).2]
theorem mI3 (l p : Nat) : (3 : Int32) * nI l + nI p = nI (3 * l + p) := by
  rw [show (3 : Int32) = nI 3 from rfl, pk_mul, nI_add]
theorem mI4 (l p : Nat) : (4 : Int32) * nI l + nI p = nI (4 * l + p) := by
  rw [show (4 : Int32) = nI 4 from rfl, pk_mul, nI_add]
theorem mI4' (l : Nat) : (4 : Int32) * nI l = nI (4 * l) := by
  rw [show (4 : Int32) = nI 4 from rfl, pk_mul]
/-- reading and writing the state's parts -/
theorem xT_get (x : xS) (i j a b : Nat) (v : Int64) : xT (xT' x i j v) a b = if a = i ∧ b = j then v else xT x a b := by
  simp only [xT, xT', va_up]
  by_cases h : a = i
  · subst h
    rw [if_pos rfl]
    simp only [vp_updL]
    by_cases h2 : b = j <;> simp [h2]
  · rw [if_neg h, if_neg (fun q => h q.1)]
theorem xB_get (x : xS) (i j a b : Nat) (v : Int32) : xB (xB' x i j v) a b = if a = i ∧ b = j then v else xB x a b := by
  simp only [xB, xB', va_up]
  by_cases h : a = i
  · subst h
    rw [if_pos rfl]
    simp only [upd]
    by_cases h2 : b = j <;> simp [h2]
  · rw [if_neg h, if_neg (fun q => h q.1)]
theorem xY_get (x : xS) (i j a b : Nat) (v : Int32) : xY (xY' x i j v) a b = if a = i ∧ b = j then v else xY x a b := by
  simp only [xY, xY', va_up]
  by_cases h : a = i
  · subst h
    rw [if_pos rfl]
    simp only [upd]
    by_cases h2 : b = j <;> simp [h2]
  · rw [if_neg h, if_neg (fun q => h q.1)]
theorem xR_get (x : xS) (p k r a b c : Nat) (v : Int32) : xR (xR' x p k r v) a b c = if a = p ∧ b = k ∧ c = r then v else xR x a b c := by
  by_cases h : a = p <;> by_cases h2 : b = k <;> by_cases h3 : c = r <;> simp [xR, xR', va_up, upd, h, h2, h3]
theorem xO_get (x : xS) (k j a b : Nat) (v : Int64) : xO (xO' x k j v) a b = if a = k ∧ b = j then v else xO x a b := by
  simp only [xO, xO', va_up]
  by_cases h : a = k
  · subst h
    rw [if_pos rfl]
    simp only [vp_updL]
    by_cases h2 : b = j <;> simp [h2]
  · rw [if_neg h, if_neg (fun q => h q.1)]
theorem xI_get (x : xS) (k a : Nat) (v : Int32) : xI (xI' x k v) a = if a = k then v else xI x a := rfl
theorem mU_PA (g : wG) (ad : Nat → Nat) (L : Nat) (x : xS) {i p : Nat} (hp : p < 3) (v : Int64) : wU (mE g ad L x) (mE g ad L (xT' x i p v)) 1 (.inl (g.2 tJ, 18, .inr (.inl (vp_updL (fun k => xT x (k / 3) (k % 3)) (3 * i + p) v)))) := by
  refine ⟨?_, fun j hj => ?_⟩
  · refine congrArg (fun f => (Sum.inl (_, _, Sum.inr (Sum.inl f)) : va_E)) (funext fun k => ?_)
    rw [xT_get]
    unfold vp_updL
    by_cases h : k = 3 * i + p
    · rw [if_pos h, if_pos (by omega)]
    · rw [if_neg h, if_neg (by omega)]
  · exact match j, hj with
    | 0, h => rfl
    | 1, h => absurd rfl h
    | 2, h => congrArg (fun f => (Sum.inl (_, _, Sum.inr (Sum.inl f)) : va_E)) (funext fun k => by rw [xT_get, if_neg (by omega)])
    | 3, h => congrArg (fun f => (Sum.inl (_, _, Sum.inr (Sum.inl f)) : va_E)) (funext fun k => by rw [xT_get, if_neg (by omega)])
    | 4, h => rfl
    | 5, h => rfl
    | 6, h => rfl
    | 7, h => rfl
    | 8, h => rfl
    | 9, h => rfl
    | 10, h => rfl
    | 11, h => rfl
    | 12, h => rfl
    | 13, h => rfl
    | j + 14, _ => rfl
theorem mU_WA (g : wG) (ad : Nat → Nat) (L : Nat) (x : xS) (i : Nat) (v : Int64) : wU (mE g ad L x) (mE g ad L (xT' x i 3 v)) 2 (.inl (g.2 tJ, 6, .inr (.inl (vp_updL (fun i => xT x i 3) i v)))) := by
  refine ⟨?_, fun j hj => ?_⟩
  · refine congrArg (fun f => (Sum.inl (_, _, Sum.inr (Sum.inl f)) : va_E)) (funext fun k => ?_)
    rw [xT_get]
    unfold vp_updL
    by_cases h : k = i
    · rw [if_pos h, if_pos (by omega)]
    · rw [if_neg h, if_neg (by omega)]
  · exact match j, hj with
    | 0, h => rfl
    | 1, h => congrArg (fun f => (Sum.inl (_, _, Sum.inr (Sum.inl f)) : va_E)) (funext fun k => by rw [xT_get, if_neg (by have := Nat.mod_lt k (show 0 < 3 by decide); omega)])
    | 2, h => absurd rfl h
    | 3, h => congrArg (fun f => (Sum.inl (_, _, Sum.inr (Sum.inl f)) : va_E)) (funext fun k => by rw [xT_get, if_neg (by omega)])
    | 4, h => rfl
    | 5, h => rfl
    | 6, h => rfl
    | 7, h => rfl
    | 8, h => rfl
    | 9, h => rfl
    | 10, h => rfl
    | 11, h => rfl
    | 12, h => rfl
    | 13, h => rfl
    | j + 14, _ => rfl
theorem mU_HE (g : wG) (ad : Nat → Nat) (L : Nat) (x : xS) (i : Nat) (v : Int64) : wU (mE g ad L x) (mE g ad L (xT' x i 4 v)) 3 (.inl (g.2 tJ, 6, .inr (.inl (vp_updL (fun i => xT x i 4) i v)))) := by
  refine ⟨?_, fun j hj => ?_⟩
  · refine congrArg (fun f => (Sum.inl (_, _, Sum.inr (Sum.inl f)) : va_E)) (funext fun k => ?_)
    rw [xT_get]
    unfold vp_updL
    by_cases h : k = i
    · rw [if_pos h, if_pos (by omega)]
    · rw [if_neg h, if_neg (by omega)]
  · exact match j, hj with
    | 0, h => rfl
    | 1, h => congrArg (fun f => (Sum.inl (_, _, Sum.inr (Sum.inl f)) : va_E)) (funext fun k => by rw [xT_get, if_neg (by have := Nat.mod_lt k (show 0 < 3 by decide); omega)])
    | 2, h => congrArg (fun f => (Sum.inl (_, _, Sum.inr (Sum.inl f)) : va_E)) (funext fun k => by rw [xT_get, if_neg (by omega)])
    | 3, h => absurd rfl h
    | 4, h => rfl
    | 5, h => rfl
    | 6, h => rfl
    | 7, h => rfl
    | 8, h => rfl
    | 9, h => rfl
    | 10, h => rfl
    | 11, h => rfl
    | 12, h => rfl
    | 13, h => rfl
    | j + 14, _ => rfl
theorem mU_DR (g : wG) (ad : Nat → Nat) (L : Nat) (x : xS) (i : Nat) (v : Int32) : wU (mE g ad L x) (mE g ad L (xB' x i 0 v)) 4 (.inl (g.2 tJ, 6, .inr (.inl (vp_updL (fun i => Int32.toInt64 (xB x i 0)) i (Int32.toInt64 v))))) := by
  refine ⟨?_, fun j hj => ?_⟩
  · refine congrArg (fun f => (Sum.inl (_, _, Sum.inr (Sum.inl f)) : va_E)) (funext fun k => ?_)
    rw [xB_get]
    unfold vp_updL
    by_cases h : k = i
    · rw [if_pos h, if_pos (by omega)]
    · rw [if_neg h, if_neg (by omega)]
  · exact match j, hj with
    | 0, h => rfl
    | 1, h => rfl
    | 2, h => rfl
    | 3, h => rfl
    | 4, h => absurd rfl h
    | 5, h => congrArg (fun f => (Sum.inl (_, _, Sum.inr (Sum.inl f)) : va_E)) (funext fun k => by rw [xB_get, if_neg (by omega)])
    | 6, h => rfl
    | 7, h => rfl
    | 8, h => rfl
    | 9, h => rfl
    | 10, h => rfl
    | 11, h => rfl
    | 12, h => rfl
    | 13, h => rfl
    | j + 14, _ => rfl
theorem mU_HO (g : wG) (ad : Nat → Nat) (L : Nat) (x : xS) (i : Nat) (v : Int32) : wU (mE g ad L x) (mE g ad L (xB' x i 1 v)) 5 (.inl (g.2 tJ, 6, .inr (.inl (vp_updL (fun i => Int32.toInt64 (xB x i 1)) i (Int32.toInt64 v))))) := by
  refine ⟨?_, fun j hj => ?_⟩
  · refine congrArg (fun f => (Sum.inl (_, _, Sum.inr (Sum.inl f)) : va_E)) (funext fun k => ?_)
    rw [xB_get]
    unfold vp_updL
    by_cases h : k = i
    · rw [if_pos h, if_pos (by omega)]
    · rw [if_neg h, if_neg (by omega)]
  · exact match j, hj with
    | 0, h => rfl
    | 1, h => rfl
    | 2, h => rfl
    | 3, h => rfl
    | 4, h => congrArg (fun f => (Sum.inl (_, _, Sum.inr (Sum.inl f)) : va_E)) (funext fun k => by rw [xB_get, if_neg (by omega)])
    | 5, h => absurd rfl h
    | 6, h => rfl
    | 7, h => rfl
    | 8, h => rfl
    | 9, h => rfl
    | 10, h => rfl
    | 11, h => rfl
    | 12, h => rfl
    | 13, h => rfl
    | j + 14, _ => rfl
theorem mU_RC (g : wG) (ad : Nat → Nat) (L : Nat) (x : xS) (p : Nat) (v : Int32) : wU (mE g ad L x) (mE g ad L (xY' x p 0 v)) 6 (.inl (g.2 tI, 3, .inl (upd (fun p => xY x p 0) p v))) := by
  refine ⟨?_, fun j hj => ?_⟩
  · refine congrArg (fun f => (Sum.inl (_, _, Sum.inl f) : va_E)) (funext fun k => ?_)
    rw [xY_get]
    unfold upd
    by_cases h : k = p
    · rw [if_pos h, if_pos (by omega)]
    · rw [if_neg h, if_neg (by omega)]
  · exact match j, hj with
    | 0, h => rfl
    | 1, h => rfl
    | 2, h => rfl
    | 3, h => rfl
    | 4, h => rfl
    | 5, h => rfl
    | 6, h => absurd rfl h
    | 7, h => rfl
    | 8, h => rfl
    | 9, h => congrArg (fun f => (Sum.inl (_, _, Sum.inl f) : va_E)) (funext fun k => by rw [xY_get, if_neg (by omega)])
    | 10, h => congrArg (fun f => (Sum.inl (_, _, Sum.inl f) : va_E)) (funext fun k => by rw [xY_get, if_neg (by omega)])
    | 11, h => rfl
    | 12, h => rfl
    | 13, h => rfl
    | j + 14, _ => rfl
theorem mU_HY (g : wG) (ad : Nat → Nat) (L : Nat) (x : xS) (p : Nat) (v : Int32) : wU (mE g ad L x) (mE g ad L (xY' x p 1 v)) 9 (.inl (g.2 tI, 3, .inl (upd (fun p => xY x p 1) p v))) := by
  refine ⟨?_, fun j hj => ?_⟩
  · refine congrArg (fun f => (Sum.inl (_, _, Sum.inl f) : va_E)) (funext fun k => ?_)
    rw [xY_get]
    unfold upd
    by_cases h : k = p
    · rw [if_pos h, if_pos (by omega)]
    · rw [if_neg h, if_neg (by omega)]
  · exact match j, hj with
    | 0, h => rfl
    | 1, h => rfl
    | 2, h => rfl
    | 3, h => rfl
    | 4, h => rfl
    | 5, h => rfl
    | 6, h => congrArg (fun f => (Sum.inl (_, _, Sum.inl f) : va_E)) (funext fun k => by rw [xY_get, if_neg (by omega)])
    | 7, h => rfl
    | 8, h => rfl
    | 9, h => absurd rfl h
    | 10, h => congrArg (fun f => (Sum.inl (_, _, Sum.inl f) : va_E)) (funext fun k => by rw [xY_get, if_neg (by omega)])
    | 11, h => rfl
    | 12, h => rfl
    | 13, h => rfl
    | j + 14, _ => rfl
theorem mU_WY (g : wG) (ad : Nat → Nat) (L : Nat) (x : xS) (p : Nat) (v : Int32) : wU (mE g ad L x) (mE g ad L (xY' x p 2 v)) 10 (.inl (g.2 tI, 3, .inl (upd (fun p => xY x p 2) p v))) := by
  refine ⟨?_, fun j hj => ?_⟩
  · refine congrArg (fun f => (Sum.inl (_, _, Sum.inl f) : va_E)) (funext fun k => ?_)
    rw [xY_get]
    unfold upd
    by_cases h : k = p
    · rw [if_pos h, if_pos (by omega)]
    · rw [if_neg h, if_neg (by omega)]
  · exact match j, hj with
    | 0, h => rfl
    | 1, h => rfl
    | 2, h => rfl
    | 3, h => rfl
    | 4, h => rfl
    | 5, h => rfl
    | 6, h => congrArg (fun f => (Sum.inl (_, _, Sum.inl f) : va_E)) (funext fun k => by rw [xY_get, if_neg (by omega)])
    | 7, h => rfl
    | 8, h => rfl
    | 9, h => congrArg (fun f => (Sum.inl (_, _, Sum.inl f) : va_E)) (funext fun k => by rw [xY_get, if_neg (by omega)])
    | 10, h => absurd rfl h
    | 11, h => rfl
    | 12, h => rfl
    | 13, h => rfl
    | j + 14, _ => rfl
theorem mU_RW (g : wG) (ad : Nat → Nat) (L : Nat) (x : xS) {p r : Nat} (hr : r < 4) (v : Int32) : wU (mE g ad L x) (mE g ad L (xR' x p 0 r v)) 7 (.inl (g.2 tI, 12, .inl (upd (fun k => xR x (k / 4) 0 (k % 4)) (4 * p + r) v))) := by
  refine ⟨?_, fun j hj => ?_⟩
  · refine congrArg (fun f => (Sum.inl (_, _, Sum.inl f) : va_E)) (funext fun k => ?_)
    rw [xR_get]
    unfold upd
    by_cases h : k = 4 * p + r
    · rw [if_pos h, if_pos (by omega)]
    · rw [if_neg h, if_neg (by omega)]
  · exact match j, hj with
    | 0, h => rfl
    | 1, h => rfl
    | 2, h => rfl
    | 3, h => rfl
    | 4, h => rfl
    | 5, h => rfl
    | 6, h => rfl
    | 7, h => absurd rfl h
    | 8, h => congrArg (fun f => (Sum.inl (_, _, Sum.inl f) : va_E)) (funext fun k => by rw [xR_get, if_neg (by omega)])
    | 9, h => rfl
    | 10, h => rfl
    | 11, h => rfl
    | 12, h => rfl
    | 13, h => rfl
    | j + 14, _ => rfl
theorem mU_RR (g : wG) (ad : Nat → Nat) (L : Nat) (x : xS) {p r : Nat} (hr : r < 4) (v : Int32) : wU (mE g ad L x) (mE g ad L (xR' x p 1 r v)) 8 (.inl (g.2 tI, 12, .inl (upd (fun k => xR x (k / 4) 1 (k % 4)) (4 * p + r) v))) := by
  refine ⟨?_, fun j hj => ?_⟩
  · refine congrArg (fun f => (Sum.inl (_, _, Sum.inl f) : va_E)) (funext fun k => ?_)
    rw [xR_get]
    unfold upd
    by_cases h : k = 4 * p + r
    · rw [if_pos h, if_pos (by omega)]
    · rw [if_neg h, if_neg (by omega)]
  · exact match j, hj with
    | 0, h => rfl
    | 1, h => rfl
    | 2, h => rfl
    | 3, h => rfl
    | 4, h => rfl
    | 5, h => rfl
    | 6, h => rfl
    | 7, h => congrArg (fun f => (Sum.inl (_, _, Sum.inl f) : va_E)) (funext fun k => by rw [xR_get, if_neg (by omega)])
    | 8, h => absurd rfl h
    | 9, h => rfl
    | 10, h => rfl
    | 11, h => rfl
    | 12, h => rfl
    | 13, h => rfl
    | j + 14, _ => rfl
theorem mU_GO (g : wG) (ad : Nat → Nat) (L : Nat) (x : xS) (j0 : Nat) (v : Int64) : wU (mE g ad L x) (mE g ad L (xO' x 0 j0 v)) 11 (.inl (g.2 tJ, 9, .inr (.inl (vp_updL (xO x 0) j0 v)))) := by
  refine ⟨?_, fun j hj => ?_⟩
  · refine congrArg (fun f => (Sum.inl (_, _, Sum.inr (Sum.inl f)) : va_E)) (funext fun k => ?_)
    rw [xO_get]
    unfold vp_updL
    by_cases h : k = j0
    · rw [if_pos h, if_pos (by omega)]
    · rw [if_neg h, if_neg (by omega)]
  · exact match j, hj with
    | 0, h => rfl
    | 1, h => rfl
    | 2, h => rfl
    | 3, h => rfl
    | 4, h => rfl
    | 5, h => rfl
    | 6, h => rfl
    | 7, h => rfl
    | 8, h => rfl
    | 9, h => rfl
    | 10, h => rfl
    | 11, h => absurd rfl h
    | 12, h => rfl
    | 13, h => rfl
    | j + 14, _ => rfl
theorem mU_rain (g : wG) (ad : Nat → Nat) (L : Nat) (x : xS) (v : Int32) : wU (mE g ad L x) (mE g ad L (xI' x 0 v)) 0 (.inr (ciM, (mF ad L x).set 11 (.int v))) := by
  refine ⟨?_, fun j hj => ?_⟩
  · rfl
  · exact match j, hj with
    | 0, h => absurd rfl h
    | 1, h => rfl
    | 2, h => rfl
    | 3, h => rfl
    | 4, h => rfl
    | 5, h => rfl
    | 6, h => rfl
    | 7, h => rfl
    | 8, h => rfl
    | 9, h => rfl
    | 10, h => rfl
    | 11, h => rfl
    | 12, h => rfl
    | 13, h => rfl
    | j + 14, _ => rfl
theorem mU_loss (g : wG) (ad : Nat → Nat) (L : Nat) (x : xS) (v : Int32) : wU (mE g ad L x) (mE g ad L (xI' x 1 v)) 0 (.inr (ciM, (mF ad L x).set 12 (.int v))) := by
  refine ⟨?_, fun j hj => ?_⟩
  · rfl
  · exact match j, hj with
    | 0, h => absurd rfl h
    | 1, h => rfl
    | 2, h => rfl
    | 3, h => rfl
    | 4, h => rfl
    | 5, h => rfl
    | 6, h => rfl
    | 7, h => rfl
    | 8, h => rfl
    | 9, h => rfl
    | 10, h => rfl
    | 11, h => rfl
    | 12, h => rfl
    | 13, h => rfl
    | j + 14, _ => rfl
theorem mU_hasFan (g : wG) (ad : Nat → Nat) (L : Nat) (x : xS) (v : Int32) : wU (mE g ad L x) (mE g ad L (xI' x 4 v)) 0 (.inr (ciM, (mF ad L x).set 13 (.int v))) := by
  refine ⟨?_, fun j hj => ?_⟩
  · rfl
  · exact match j, hj with
    | 0, h => absurd rfl h
    | 1, h => rfl
    | 2, h => rfl
    | 3, h => rfl
    | 4, h => rfl
    | 5, h => rfl
    | 6, h => rfl
    | 7, h => rfl
    | 8, h => rfl
    | 9, h => rfl
    | 10, h => rfl
    | 11, h => rfl
    | 12, h => rfl
    | 13, h => rfl
    | j + 14, _ => rfl
theorem mU_target (g : wG) (ad : Nat → Nat) (L : Nat) (x : xS) (v : Int32) : wU (mE g ad L x) (mE g ad L (xI' x 5 v)) 0 (.inr (ciM, (mF ad L x).set 14 (.int v))) := by
  refine ⟨?_, fun j hj => ?_⟩
  · rfl
  · exact match j, hj with
    | 0, h => absurd rfl h
    | 1, h => rfl
    | 2, h => rfl
    | 3, h => rfl
    | 4, h => rfl
    | 5, h => rfl
    | 6, h => rfl
    | 7, h => rfl
    | 8, h => rfl
    | 9, h => rfl
    | 10, h => rfl
    | 11, h => rfl
    | 12, h => rfl
    | 13, h => rfl
    | j + 14, _ => rfl
theorem mU_byNow (g : wG) (ad : Nat → Nat) (L : Nat) (x : xS) (v : Int32) : wU (mE g ad L x) (mE g ad L (xI' x 6 v)) 0 (.inr (ciM, (mF ad L x).set 15 (.int v))) := by
  refine ⟨?_, fun j hj => ?_⟩
  · rfl
  · exact match j, hj with
    | 0, h => absurd rfl h
    | 1, h => rfl
    | 2, h => rfl
    | 3, h => rfl
    | 4, h => rfl
    | 5, h => rfl
    | 6, h => rfl
    | 7, h => rfl
    | 8, h => rfl
    | 9, h => rfl
    | 10, h => rfl
    | 11, h => rfl
    | 12, h => rfl
    | 13, h => rfl
    | j + 14, _ => rfl
theorem mU_bySum (g : wG) (ad : Nat → Nat) (L : Nat) (x : xS) (v : Int32) : wU (mE g ad L x) (mE g ad L (xI' x 7 v)) 0 (.inr (ciM, (mF ad L x).set 16 (.int v))) := by
  refine ⟨?_, fun j hj => ?_⟩
  · rfl
  · exact match j, hj with
    | 0, h => absurd rfl h
    | 1, h => rfl
    | 2, h => rfl
    | 3, h => rfl
    | 4, h => rfl
    | 5, h => rfl
    | 6, h => rfl
    | 7, h => rfl
    | 8, h => rfl
    | 9, h => rfl
    | 10, h => rfl
    | 11, h => rfl
    | 12, h => rfl
    | 13, h => rfl
    | j + 14, _ => rfl
theorem mU_air (g : wG) (ad : Nat → Nat) (L : Nat) (x : xS) (v : Int32) : wU (mE g ad L x) (mE g ad L (xI' x 8 v)) 0 (.inr (ciM, (mF ad L x).set 18 (.int v))) := by
  refine ⟨?_, fun j hj => ?_⟩
  · rfl
  · exact match j, hj with
    | 0, h => absurd rfl h
    | 1, h => rfl
    | 2, h => rfl
    | 3, h => rfl
    | 4, h => rfl
    | 5, h => rfl
    | 6, h => rfl
    | 7, h => rfl
    | 8, h => rfl
    | 9, h => rfl
    | 10, h => rfl
    | 11, h => rfl
    | 12, h => rfl
    | 13, h => rfl
    | j + 14, _ => rfl
theorem mU_turns (g : wG) (ad : Nat → Nat) (L : Nat) (x : xS) (v : Int32) : wU (mE g ad L x) (mE g ad L (xI' x 3 v)) 0 (.inr (ciM, (mF ad L x).set 20 (.int v))) := by
  refine ⟨?_, fun j hj => ?_⟩
  · rfl
  · exact match j, hj with
    | 0, h => absurd rfl h
    | 1, h => rfl
    | 2, h => rfl
    | 3, h => rfl
    | 4, h => rfl
    | 5, h => rfl
    | 6, h => rfl
    | 7, h => rfl
    | 8, h => rfl
    | 9, h => rfl
    | 10, h => rfl
    | 11, h => rfl
    | 12, h => rfl
    | 13, h => rfl
    | j + 14, _ => rfl
theorem mU_limit (g : wG) (ad : Nat → Nat) (L : Nat) (x : xS) (v : Int32) : wU (mE g ad L x) (mE g ad L (xI' x 2 v)) 0 (.inr (ciM, (mF ad L x).set 19 (.long (Int32.toInt64 v)))) := by
  refine ⟨?_, fun j hj => ?_⟩
  · rfl
  · exact match j, hj with
    | 0, h => absurd rfl h
    | 1, h => rfl
    | 2, h => rfl
    | 3, h => rfl
    | 4, h => rfl
    | 5, h => rfl
    | 6, h => rfl
    | 7, h => rfl
    | 8, h => rfl
    | 9, h => rfl
    | 10, h => rfl
    | 11, h => rfl
    | 12, h => rfl
    | 13, h => rfl
    | j + 14, _ => rfl
theorem mU_sum (g : wG) (ad : Nat → Nat) (L : Nat) (x : xS) (v : Int64) : wU (mE g ad L x) (mE g ad L (xF' x v)) 0 (.inr (ciM, (mF ad L x).set 17 (.long v))) := by
  refine ⟨?_, fun j hj => ?_⟩
  · rfl
  · exact match j, hj with
    | 0, h => absurd rfl h
    | 1, h => rfl
    | 2, h => rfl
    | 3, h => rfl
    | 4, h => rfl
    | 5, h => rfl
    | 6, h => rfl
    | 7, h => rfl
    | 8, h => rfl
    | 9, h => rfl
    | 10, h => rfl
    | 11, h => rfl
    | 12, h => rfl
    | 13, h => rfl
    | j + 14, _ => rfl
theorem mU_PU0 (g : wG) (ad : Nat → Nat) (L : Nat) (x : xS) {p : Nat} (hp : p < 3) (v : Int64) : wU (mE g ad L x) (mE g ad L (xO' x 1 p (xO x 1 p + v))) 12 (.inl (g.2 tJ, 3, .inr (.inl (vp_updL (mPut x) 0 (mPut x 0 + v))))) := by
  refine ⟨?_, fun j hj => ?_⟩
  · refine congrArg (fun f => (Sum.inl (_, _, Sum.inr (Sum.inl f)) : va_E)) (funext fun k => ?_)
    by_cases h : k = 0
    · subst h
      match p, hp with
      | 0, _ => simp [mPut, vp_updL, xO_get]; ac_rfl
      | 1, _ => simp [mPut, vp_updL, xO_get]; ac_rfl
      | 2, _ => simp [mPut, vp_updL, xO_get]; ac_rfl
    · simp [mPut, vp_updL, xO_get, h, show ¬ 3 = p by omega, show ¬ 4 = p by omega]
  · exact match j, hj with
    | 0, h => rfl
    | 1, h => rfl
    | 2, h => rfl
    | 3, h => rfl
    | 4, h => rfl
    | 5, h => rfl
    | 6, h => rfl
    | 7, h => rfl
    | 8, h => rfl
    | 9, h => rfl
    | 10, h => rfl
    | 11, h => congrArg (fun f => (Sum.inl (_, _, Sum.inr (Sum.inl f)) : va_E)) (funext fun k => by rw [xO_get, if_neg (by omega)])
    | 12, h => absurd rfl h
    | 13, h => congrArg (fun f => (Sum.inl (_, _, Sum.inr (Sum.inl f)) : va_E)) (funext fun k => by simp only [mTak, xO_get]; simp)
    | j + 14, _ => rfl
theorem mU_PU1 (g : wG) (ad : Nat → Nat) (L : Nat) (x : xS) (v : Int64) : wU (mE g ad L x) (mE g ad L (xO' x 1 3 v)) 12 (.inl (g.2 tJ, 3, .inr (.inl (vp_updL (mPut x) 1 v)))) := by
  refine ⟨?_, fun j hj => ?_⟩
  · refine congrArg (fun f => (Sum.inl (_, _, Sum.inr (Sum.inl f)) : va_E)) (funext fun k => ?_)
    by_cases h : k = 1
    · simp [mPut, vp_updL, xO_get, h]
    · by_cases h0 : k = 0
      · simp [mPut, vp_updL, xO_get, h0]
      · simp [mPut, vp_updL, xO_get, h, h0]
  · exact match j, hj with
    | 0, h => rfl
    | 1, h => rfl
    | 2, h => rfl
    | 3, h => rfl
    | 4, h => rfl
    | 5, h => rfl
    | 6, h => rfl
    | 7, h => rfl
    | 8, h => rfl
    | 9, h => rfl
    | 10, h => rfl
    | 11, h => congrArg (fun f => (Sum.inl (_, _, Sum.inr (Sum.inl f)) : va_E)) (funext fun k => by rw [xO_get, if_neg (by omega)])
    | 12, h => absurd rfl h
    | 13, h => congrArg (fun f => (Sum.inl (_, _, Sum.inr (Sum.inl f)) : va_E)) (funext fun k => by simp only [mTak, xO_get]; simp)
    | j + 14, _ => rfl
theorem mU_PU2 (g : wG) (ad : Nat → Nat) (L : Nat) (x : xS) (v : Int64) : wU (mE g ad L x) (mE g ad L (xO' x 1 4 v)) 12 (.inl (g.2 tJ, 3, .inr (.inl (vp_updL (mPut x) 2 v)))) := by
  refine ⟨?_, fun j hj => ?_⟩
  · refine congrArg (fun f => (Sum.inl (_, _, Sum.inr (Sum.inl f)) : va_E)) (funext fun k => ?_)
    by_cases h : k = 2
    · simp [mPut, vp_updL, xO_get, h]
    · by_cases h0 : k = 0
      · simp [mPut, vp_updL, xO_get, h0]
      · by_cases h1 : k = 1
        · simp [mPut, vp_updL, xO_get, h1]
        · simp [mPut, vp_updL, xO_get, h, h0, h1]
  · exact match j, hj with
    | 0, h => rfl
    | 1, h => rfl
    | 2, h => rfl
    | 3, h => rfl
    | 4, h => rfl
    | 5, h => rfl
    | 6, h => rfl
    | 7, h => rfl
    | 8, h => rfl
    | 9, h => rfl
    | 10, h => rfl
    | 11, h => congrArg (fun f => (Sum.inl (_, _, Sum.inr (Sum.inl f)) : va_E)) (funext fun k => by rw [xO_get, if_neg (by omega)])
    | 12, h => absurd rfl h
    | 13, h => congrArg (fun f => (Sum.inl (_, _, Sum.inr (Sum.inl f)) : va_E)) (funext fun k => by simp only [mTak, xO_get]; simp)
    | j + 14, _ => rfl
theorem mU_TK0 (g : wG) (ad : Nat → Nat) (L : Nat) (x : xS) {p : Nat} (hp : p < 3) (v : Int64) : wU (mE g ad L x) (mE g ad L (xO' x 2 p (xO x 2 p + v))) 13 (.inl (g.2 tJ, 3, .inr (.inl (vp_updL (mTak x) 0 (mTak x 0 + v))))) := by
  refine ⟨?_, fun j hj => ?_⟩
  · refine congrArg (fun f => (Sum.inl (_, _, Sum.inr (Sum.inl f)) : va_E)) (funext fun k => ?_)
    by_cases h : k = 0
    · subst h
      match p, hp with
      | 0, _ => simp [mTak, vp_updL, xO_get]; ac_rfl
      | 1, _ => simp [mTak, vp_updL, xO_get]; ac_rfl
      | 2, _ => simp [mTak, vp_updL, xO_get]; ac_rfl
    · simp [mTak, vp_updL, xO_get, h, show ¬ 3 = p by omega, show ¬ 4 = p by omega]
  · exact match j, hj with
    | 0, h => rfl
    | 1, h => rfl
    | 2, h => rfl
    | 3, h => rfl
    | 4, h => rfl
    | 5, h => rfl
    | 6, h => rfl
    | 7, h => rfl
    | 8, h => rfl
    | 9, h => rfl
    | 10, h => rfl
    | 11, h => congrArg (fun f => (Sum.inl (_, _, Sum.inr (Sum.inl f)) : va_E)) (funext fun k => by rw [xO_get, if_neg (by omega)])
    | 12, h => congrArg (fun f => (Sum.inl (_, _, Sum.inr (Sum.inl f)) : va_E)) (funext fun k => by simp only [mPut, xO_get]; simp)
    | 13, h => absurd rfl h
    | j + 14, _ => rfl
theorem mU_TK1 (g : wG) (ad : Nat → Nat) (L : Nat) (x : xS) (v : Int64) : wU (mE g ad L x) (mE g ad L (xO' x 2 3 v)) 13 (.inl (g.2 tJ, 3, .inr (.inl (vp_updL (mTak x) 1 v)))) := by
  refine ⟨?_, fun j hj => ?_⟩
  · refine congrArg (fun f => (Sum.inl (_, _, Sum.inr (Sum.inl f)) : va_E)) (funext fun k => ?_)
    by_cases h : k = 1
    · simp [mTak, vp_updL, xO_get, h]
    · by_cases h0 : k = 0
      · simp [mTak, vp_updL, xO_get, h0]
      · simp [mTak, vp_updL, xO_get, h, h0]
  · exact match j, hj with
    | 0, h => rfl
    | 1, h => rfl
    | 2, h => rfl
    | 3, h => rfl
    | 4, h => rfl
    | 5, h => rfl
    | 6, h => rfl
    | 7, h => rfl
    | 8, h => rfl
    | 9, h => rfl
    | 10, h => rfl
    | 11, h => congrArg (fun f => (Sum.inl (_, _, Sum.inr (Sum.inl f)) : va_E)) (funext fun k => by rw [xO_get, if_neg (by omega)])
    | 12, h => congrArg (fun f => (Sum.inl (_, _, Sum.inr (Sum.inl f)) : va_E)) (funext fun k => by simp only [mPut, xO_get]; simp)
    | 13, h => absurd rfl h
    | j + 14, _ => rfl
theorem mU_TK2 (g : wG) (ad : Nat → Nat) (L : Nat) (x : xS) (v : Int64) : wU (mE g ad L x) (mE g ad L (xO' x 2 4 v)) 13 (.inl (g.2 tJ, 3, .inr (.inl (vp_updL (mTak x) 2 v)))) := by
  refine ⟨?_, fun j hj => ?_⟩
  · refine congrArg (fun f => (Sum.inl (_, _, Sum.inr (Sum.inl f)) : va_E)) (funext fun k => ?_)
    by_cases h : k = 2
    · simp [mTak, vp_updL, xO_get, h]
    · by_cases h0 : k = 0
      · simp [mTak, vp_updL, xO_get, h0]
      · by_cases h1 : k = 1
        · simp [mTak, vp_updL, xO_get, h1]
        · simp [mTak, vp_updL, xO_get, h, h0, h1]
  · exact match j, hj with
    | 0, h => rfl
    | 1, h => rfl
    | 2, h => rfl
    | 3, h => rfl
    | 4, h => rfl
    | 5, h => rfl
    | 6, h => rfl
    | 7, h => rfl
    | 8, h => rfl
    | 9, h => rfl
    | 10, h => rfl
    | 11, h => congrArg (fun f => (Sum.inl (_, _, Sum.inr (Sum.inl f)) : va_E)) (funext fun k => by rw [xO_get, if_neg (by omega)])
    | 12, h => congrArg (fun f => (Sum.inl (_, _, Sum.inr (Sum.inl f)) : va_E)) (funext fun k => by simp only [mPut, xO_get]; simp)
    | 13, h => absurd rfl h
    | j + 14, _ => rfl
end
section
/-! WHAT THE REFERENCE'S METHODS DO, on the same state -/
def m_isIn (u v w : Int64) : Int32 := if lg_cmp u v < 0 then 0 else if 0 < lg_cmp u w then 0 else 1
def m_isLayer (L : Nat) (l : Int32) : Int32 := if l < 0 then 0 else if nI L ≤ l then 0 else 1
def m_isPart (p : Int32) : Int32 := if p < 0 then 0 else if 3 ≤ p then 0 else 1
def m_warm (x : xS) (i : Nat) : Int64 := if lg_cmp (x_mass x i) 0 = 0 then 0 else xT x i 4 / x_mass x i
def m_rateN (x : xS) (p : Nat) (w : Int64) : Nat → Int64
  | 0 => 0
  | n + 1 => if 0 < lg_cmp (Int32.toInt64 (xR x p 0 n)) w then m_rateN x p w n else Int32.toInt64 (xR x p 1 n)
def m_rate (x : xS) (p : Nat) (w : Int64) : Int64 := m_rateN x p w (xY x p 0).toNatClampNeg
def m_breakPart (x : xS) (i p : Nat) (w : Int64) : xS :=
  let gr := x_mo (xT x i p) (m_rate x p w)
  let x := xT' x i p (xT x i p - gr)
  let x := xO' x 0 0 (xO x 0 0 + gr)
  let he := gr * Int32.toInt64 (xY x p 1)
  let x := xT' x i 4 (xT x i 4 + he)
  let x := xO' x 0 4 (xO x 0 4 + he)
  let wa := gr * Int32.toInt64 (xY x p 2) / 1000
  let x := xT' x i 3 (xT x i 3 + wa)
  xO' x 0 7 (xO x 0 7 + wa)
def m_breaks (x : xS) (i : Nat) : xS :=
  let w := m_warm x i
  m_breakPart (m_breakPart (m_breakPart x i 0 w) i 1 w) i 2 w
def m_loses (x : xS) (i : Nat) : xS :=
  let lo := x_mo (xT x i 4) (Int32.toInt64 (xI x 1))
  let x := xT' x i 4 (xT x i 4 - lo)
  let x := xO' x 0 5 (xO x 0 5 + lo)
  let off := x_mo (xT x i 3) (Int32.toInt64 (xI x 8))
  let x := xT' x i 3 (xT x i 3 - off)
  let x := xO' x 0 1 (xO x 0 1 + off)
  let he := if 0 ≤ lg_cmp (600 * off) (xT x i 4) then xT x i 4 else 600 * off
  let x := xT' x i 4 (xT x i 4 - he)
  xO' x 0 6 (xO x 0 6 + he)
def m_cut (v lo hi : Int64) : Int64 := if 0 ≤ lg_cmp v lo then (if lg_cmp v hi ≤ 0 then v else hi) else lo
def m_wN (x : xS) : Nat → Int64
  | 0 => m_warm x 0
  | n + 1 => if lg_cmp (m_warm x (n + 1)) (m_wN x n) ≤ 0 then m_wN x n else m_warm x (n + 1)
def m_setFan (L : Nat) (x : xS) : xS :=
  if xI x 4 = 0 then x else
    let e := m_wN x (L - 1) - Int32.toInt64 (xI x 5)
    let x := xF' x (m_cut (xF x + e) (-1000000000) 1000000000)
    let all := Int32.toInt64 (xI x 6) * e + Int32.toInt64 (xI x 7) * xF x
    let down := all / 1000 - (if 0 ≤ lg_cmp (all - all / 1000 * 1000) 0 then 0 else 1)
    xI' x 8 (Int64.toInt32 (m_cut down 0 1000))
def m_over (x : xS) (i : Nat) : Int64 := if lg_cmp (xT x i 3) (Int32.toInt64 (xB x i 1)) ≤ 0 then 0 else xT x i 3 - Int32.toInt64 (xB x i 1)
def m_down (L : Nat) (x : xS) (i : Nat) : xS :=
  let ov := m_over x i
  let x := xT' x i 3 (xT x i 3 - ov)
  if nI L ≤ nI (i + 1) then xO' x 0 2 (xO x 0 2 + ov) else xT' x (i + 1) 3 (xT x (i + 1) 3 + ov)
def m_layer (L : Nat) (x : xS) (i : Nat) : xS :=
  m_down L (m_loses (if lg_cmp (xT x i 3) (Int32.toInt64 (xB x i 0)) < 0 then x else m_breaks x i) i) i
def m_layersN (L : Nat) (x : xS) : Nat → xS
  | 0 => x
  | n + 1 => m_layer L (m_layersN L x n) n
def m_minute (L : Nat) (x : xS) : xS :=
  let x := xT' x 0 3 (xT x 0 3 + Int32.toInt64 (xI x 0))
  let x := xO' x 0 3 (xO x 0 3 + Int32.toInt64 (xI x 0))
  let x := m_setFan L (m_layersN L x L)
  xO' x 0 8 (xO x 0 8 + 1)
def m_goN (L : Nat) : Nat → xS → Nat × xS
  | 0, x => (0, x)
  | n + 1, x => if 0 < lg_cmp (m_wN x (L - 1)) (Int32.toInt64 (xI x 2)) then (0, x) else ((m_goN L n (m_minute L x)).1 + 1, (m_goN L n (m_minute L x)).2)
def m_run (L : Nat) (x : xS) (k : Int32) : Int32 × xS :=
  if x_within k 1 1000 = 0 then (-1, x) else if lg_cmp (xO x 0 8 + Int32.toInt64 k) 20000 ≤ 0 then (nI (m_goN L k.toNatClampNeg x).1, (m_goN L k.toNatClampNeg x).2) else (-1, x)
def m_warmth (L : Nat) (x : xS) (l : Int32) : Int64 := match x_la L l with
  | none => -1
  | some i => m_warm x i
def m_share (L : Nat) (all : Int64) (i : Nat) : Int64 := all / Int32.toInt64 (nI L) + (if 0 ≤ lg_cmp (Int32.toInt64 (nI i)) (all - all / Int32.toInt64 (nI L) * Int32.toInt64 (nI L)) then 0 else 1)
def m_shareN (L : Nat) (x : xS) (k : Nat) (all : Int64) : Nat → xS
  | 0 => x
  | n + 1 => xT' (m_shareN L x k all n) n k (m_share L all n)
def m_share2N (L : Nat) (x : xS) (w h : Int64) : Nat → xS
  | 0 => x
  | n + 1 => xT' (xT' (m_share2N L x w h n) n 3 (m_share L w n)) n 4 (m_share L h n)
def m_turn (L : Nat) (x : xS) : Int32 × xS :=
  let x := m_shareN L x 0 (x_inAllN x 0 L) L
  let x := m_shareN L x 1 (x_inAllN x 1 L) L
  let x := m_shareN L x 2 (x_inAllN x 2 L) L
  let x := m_share2N L x (x_inAllN x 3 L) (x_inAllN x 4 L) L
  (xI x 3 + 1, xI' x 3 (xI x 3 + 1))
def m_thereN (x : xS) : Nat → Int64
  | 0 => 0
  | n + 1 => m_thereN x n + (x_mass x n - xT x n 3)
def m_balance (L : Nat) (x : xS) (k : Int32) : Int64 :=
  if x_within k 0 2 = 0 then -1
  else if k = 0 then mPut x 0 - mTak x 0 - m_thereN x L - xO x 0 0
  else if k = 1 then mPut x 1 - mTak x 1 - x_inAllN x 3 L + xO x 0 3 + xO x 0 7 - xO x 0 1 - xO x 0 2
  else mPut x 2 - mTak x 2 - x_inAllN x 4 L + xO x 0 4 - xO x 0 5 - xO x 0 6
def m_zero (x : xS) (i : Nat) : xS := xT' (xT' (xT' (xT' (xT' x i 0 0) i 1 0) i 2 0) i 3 0) i 4 0
def m_zeroN (x : xS) : Nat → xS
  | 0 => x
  | n + 1 => m_zero (m_zeroN x n) n
def m_batch (L : Nat) (x : xS) : Int64 × xS :=
  let x1 := xO' x 2 0 (xO x 2 0 + m_thereN x L)
  let x2 := xO' x1 2 3 (mTak x1 1 + x_inAllN x1 3 L)
  let x3 := xO' x2 2 4 (mTak x2 2 + x_inAllN x2 4 L)
  (m_thereN x L + x_inAllN x 3 L, m_zeroN x3 L)
/-! the tests of the two are the same -/
theorem i64_lt (a b : Int32) : Int32.toInt64 a < Int32.toInt64 b ↔ a < b := by
  rw [Int64.lt_iff_toInt_lt, Int32.toInt_toInt64, Int32.toInt_toInt64, Int32.lt_iff_toInt_lt]
theorem isIn_x {a b c : Int32} {v w : Int64} (hv : v = Int32.toInt64 b) (hw : w = Int32.toInt64 c) : m_isIn (Int32.toInt64 a) v w = x_within a b c := by
  subst hv; subst hw
  unfold m_isIn x_within
  have h1 : lg_cmp (Int32.toInt64 a) (Int32.toInt64 b) < 0 ↔ a < b := (lg_cmp_lt _ _).trans (i64_lt a b)
  have h2 : 0 < lg_cmp (Int32.toInt64 a) (Int32.toInt64 c) ↔ c < a := (lg_cmp_gt _ _).trans (i64_lt c a)
  simp only [h1, h2]
theorem isPart_x (p : Int32) : m_isPart p = x_within p 0 2 := by
  unfold m_isPart x_within
  have h : (3 ≤ p) ↔ (2 < p) := by
    rw [Int32.le_iff_toInt_le, Int32.lt_iff_toInt_lt]
    show (3 : Int) ≤ _ ↔ (2 : Int) < _
    omega
  simp only [h]
theorem isLayer_none {L : Nat} (hL : 1 ≤ L ∧ L ≤ 6) {l : Int32} (h : x_la L l = none) : m_isLayer L l = 0 := by
  unfold m_isLayer
  by_cases h1 : l < 0
  · rw [if_pos h1]
  · rw [if_neg h1]
    by_cases h2 : nI L ≤ l
    · rw [if_pos h2]
    · obtain ⟨j, hj, rfl⟩ := nI_of h1
      have hjL : j < L := by
        rcases Nat.lt_or_ge j L with q | q
        · exact q
        · exact absurd (nI_le q hj) h2
      unfold x_la x_within at h
      rw [if_neg h1] at h
      obtain ⟨k, rfl⟩ : ∃ k, L = k + 1 := ⟨L - 1, by omega⟩
      rw [nI_pred] at h
      rw [if_neg (nI_nlt (by omega) (by omega)), if_neg (by decide)] at h
      cases h
theorem isLayer_some {L : Nat} (hL : 1 ≤ L ∧ L ≤ 6) {i : Nat} (h : i < L) : m_isLayer L (nI i) = 1 := by
  unfold m_isLayer
  rw [if_neg (nI_pos (by omega)), if_neg (nI_ge h (by omega))]
theorem x_within_1 {a b c : Int32} (h : ¬ x_within a b c = 0) : x_within a b c = 1 := by
  rcases x_within_01 a b c with q | q
  · exact absurd q h
  · exact q
section WV
variable {p : Program} {l : Launch} {e : Env} {R : Room} {s : State} {m : MethodId} {args : Array Value} {below : List Frame} {meth : Method} {c : Code} {H : Heap} {locs : List Loc} {cells slots : Nat} {Q : State → Prop}
variable {cc : ByteArray} {pc : Nat} {ls : Array Slot} {rest st0 : List Value} {g : wG} {n : Nat} {ad : Nat → Nat} {E E' : Nat → va_E} {H0 : Heap}
theorem wr_laldv (hx : p.tables.exec = Jvm.exec) (hb : c.code = cc) (hK : va_K g.1 vwCl (wtys g) s) (hP : va_P g.1 vwCl (wo n ad E) H) (q0 t0 : Nat) (hq : q0 < n) {cA : ClassId} {N : Nat} {f : Nat → Int64} (he : E q0 = .inl (cA, N, .inr (.inl f))) (ht : (wtys g)[t0]? = some (cA, .long)) {i : Int32} (j : Nat) (hi : i = nI j) (hj : j < N) (hN : N < 2 ^ 31) {v : Int64} (hv : f j = v) (hdg : decode cc pc = .ok (.laload, 1))
    (kk : W p l e R s m args below meth c H locs cells slots Q (F0 m (pc + 1) ls (.long v :: rest))) : W p l e R s m args below meth c H locs cells slots Q (F0 m pc ls (.int i :: .ref (ad q0) :: rest)) := by
  subst hv
  exact wr_lald hx hb hK hP q0 t0 hq he ht j hi hj hN hdg kk
theorem wr_ialdv (hx : p.tables.exec = Jvm.exec) (hb : c.code = cc) (hK : va_K g.1 vwCl (wtys g) s) (hP : va_P g.1 vwCl (wo n ad E) H) (q0 t0 : Nat) (hq : q0 < n) {cA : ClassId} {N : Nat} {f : Nat → Int32} (he : E q0 = .inl (cA, N, .inl f)) (ht : (wtys g)[t0]? = some (cA, .int)) {i : Int32} (j : Nat) (hi : i = nI j) (hj : j < N) (hN : N < 2 ^ 31) {v : Int32} (hv : f j = v) (hdg : decode cc pc = .ok (.iaload, 1))
    (kk : W p l e R s m args below meth c H locs cells slots Q (F0 m (pc + 1) ls (.int v :: rest))) : W p l e R s m args below meth c H locs cells slots Q (F0 m pc ls (.int i :: .ref (ad q0) :: rest)) := by
  subst hv
  exact wr_iald hx hb hK hP q0 t0 hq he ht j hi hj hN hdg kk
end WV
theorem m4dec {k r : Nat} (h : 1 ≤ r) : nI (4 * k + r) - 1 = nI (4 * k + (r - 1)) := by
  obtain ⟨r', rfl⟩ : ∃ r', r = r' + 1 := ⟨r - 1, by omega⟩
  exact nI_pred (4 * k + r')
theorem rate_n4 {v : Int32} {r : Nat} (hr4 : r ≤ 4) (hre : v = nI r) (h : ¬ v = 4) : ¬ 4 ≤ v := by
  subst hre
  have h5 : r ≠ 4 := fun q => h (by rw [q]; rfl)
  exact nI_ge (a := r) (b := 4) (by omega) (by omega)
/-! what a minute leaves as it was -/
theorem xYs_mbreakPart (x : xS) (i p : Nat) (w : Int64) : xYs (m_breakPart x i p w) = xYs x := by
  unfold m_breakPart
  show xYs (xO' (xT' (xO' (xT' (xO' (xT' x _ _ _) _ _ _) _ _ _) _ _ _) _ _ _) _ _ _) = _
  rw [xYs_O, xYs_T, xYs_O, xYs_T, xYs_O, xYs_T]
theorem xYs_mbreaks (x : xS) (i : Nat) : xYs (m_breaks x i) = xYs x := by
  unfold m_breaks
  show xYs (m_breakPart (m_breakPart (m_breakPart x i 0 _) i 1 _) i 2 _) = _
  rw [xYs_mbreakPart, xYs_mbreakPart, xYs_mbreakPart]
theorem xYs_mloses (x : xS) (i : Nat) : xYs (m_loses x i) = xYs x := by
  unfold m_loses
  show xYs (xO' (xT' (xO' (xT' (xO' (xT' x _ _ _) _ _ _) _ _ _) _ _ _) _ _ _) _ _ _) = _
  rw [xYs_O, xYs_T, xYs_O, xYs_T, xYs_O, xYs_T]
theorem xYs_mdown (L : Nat) (x : xS) (i : Nat) : xYs (m_down L x i) = xYs x := by
  unfold m_down
  dsimp only
  split
  · rw [xYs_O, xYs_T]
  · rw [xYs_T, xYs_T]
theorem xYs_mlayer (L : Nat) (x : xS) (i : Nat) : xYs (m_layer L x i) = xYs x := by
  unfold m_layer
  rw [xYs_mdown, xYs_mloses]
  split
  · rfl
  · rw [xYs_mbreaks]
theorem xYs_mlayersN (L : Nat) (x : xS) : ∀ n, xYs (m_layersN L x n) = xYs x
  | 0 => rfl
  | n + 1 => by rw [m_layersN, xYs_mlayer, xYs_mlayersN L x n]
theorem xYs_msetFan (L : Nat) (x : xS) : xYs (m_setFan L x) = xYs x := by
  unfold m_setFan
  split
  · rfl
  · show xYs (xI' (xF' x _) _ _) = _
    rw [xYs_I, xYs_F]
theorem xYs_mminute (L : Nat) (x : xS) : xYs (m_minute L x) = xYs x := by
  unfold m_minute
  show xYs (xO' (m_setFan L (m_layersN L (xO' (xT' x _ _ _) _ _ _) L)) _ _ _) = _
  rw [xYs_O, xYs_msetFan, xYs_mlayersN, xYs_O, xYs_T]
theorem x_rows_mlayersN {x : xS} (h : x_rows x) (L n : Nat) : x_rows (m_layersN L x n) := x_rows_of (xYs_mlayersN L x n) h
theorem x_rows_mminute {x : xS} (h : x_rows x) (L : Nat) : x_rows (m_minute L x) := x_rows_of (xYs_mminute L x) h
theorem m_goN_step {L fu r : Nat} {z : xS} (h : ¬ 0 < lg_cmp (m_wN z (L - 1)) (Int32.toInt64 (xI z 2))) : ((m_goN L (fu + 1) z).1 + r, (m_goN L (fu + 1) z).2) = ((m_goN L fu (m_minute L z)).1 + (r + 1), (m_goN L fu (m_minute L z)).2) := by
  rw [m_goN, if_neg h]
  congr 1
  simp only
  omega
end
section
set_option maxHeartbeats 4000000 in
set_option maxRecDepth 100000 in
theorem c_M_isIn (l : Launch) (g : wG) (n : Nat) (ad : Nat → Nat) (E : Nat → va_E) (u v w : Int64) : CtI l y_M_isIn ws_M_isIn ({ frames := 0, cells := 0, slots := 0, locals := 0 }) g n ad E E [.long u, .long v, .long w] (m_isIn u v w) := by
  intro sz
  refine Met.ofW (cc := b_M_isIn) (maxL := 6) (ret := (some .boolean)) (by decide +kernel) rfl ?_
  intro p e s m args below meth c s₁ B hml hv
  obtain ⟨rfl, hsz, hP, hK, hN, hJ⟩ := hv
  have hx := B.exec
  have hb := B.bytes
  have hr := B.returns
  have hts0 := atoms_spec (ws := ws_M_isIn) B.pre
  have hts : ∀ w ∈ tb, w.before _ s = true := fun w h => hts0 w (List.mem_cons_of_mem _ h)
  have hown : s.vm.findClass "HeapStepsModel" = some m.cls := findClass_of_methodNamed B.named
  have hlocks := B.notSynchronized
  subst hsz
  have hS : va_S (wA n ad s.heap.size) s.heap s.heap [] := va_S.rf
  have hl := lv_entry ([.long u, .long v, .long w]) (n := 6) (Nat.le_of_ble_eq_true rfl)
  rw [lg_entry_eq]
  generalize (lg_sl ([.long u, .long v, .long w]) ++ List.replicate (6 - (lg_sl ([.long u, .long v, .long w])).length) Slot.unset).toArray = ls at hl ⊢
  have hl : lv_has ls 6 [(0, .long u), (2, .long v), (4, .long w)] := hl
  refine lv_lload_n hx hb d_M_isIn_0 rfl (lv_at hl 0 rfl) ?_
  refine lv_lload_n hx hb d_M_isIn_1 rfl (lv_at hl 1 rfl) ?_
  refine W.lcmp hx hb d_M_isIn_2 ?_
  refine lv_if_lt (tgt := 17) hx hb d_M_isIn_3 (by decide) (fun c_1 => ?_) (fun c_1 => ?_)
  · skip
    refine lv_iconst (v := 0) hx hb d_M_isIn_17 (by decide) ?_
    exact W.zret hx hb hr rfl (fun t ht hW => ⟨⟨_, (), rfl, by (try simp only [m_isIn, if_pos c_1, ite_self]); first | done | rfl | assumption | exact x_within_1 (by assumption), by dsimp only; rw [ht]; (try simp only [m_isIn, if_pos c_1, ite_self]); exact hP⟩, hS.F ht⟩) hS.2.2 d_M_isIn_18
  · skip
    refine lv_lload_n hx hb d_M_isIn_6 rfl (lv_at hl 0 rfl) ?_
    refine lv_lload hx hb d_M_isIn_7 (lv_at hl 2 rfl) ?_
    refine W.lcmp hx hb d_M_isIn_9 ?_
    refine lv_if_gt (tgt := 17) hx hb d_M_isIn_10 (by decide) (fun c_2 => ?_) (fun c_2 => ?_)
    · skip
      refine lv_iconst (v := 0) hx hb d_M_isIn_17 (by decide) ?_
      exact W.zret hx hb hr rfl (fun t ht hW => ⟨⟨_, (), rfl, by (try simp only [m_isIn, if_neg c_1, if_pos c_2, ite_self]); first | done | rfl | assumption | exact x_within_1 (by assumption), by dsimp only; rw [ht]; (try simp only [m_isIn, if_neg c_1, if_pos c_2, ite_self]); exact hP⟩, hS.F ht⟩) hS.2.2 d_M_isIn_18
    · skip
      refine lv_iconst (v := 1) hx hb d_M_isIn_13 (by decide) ?_
      refine lv_goto (tgt := 18) hx hb d_M_isIn_14 (by decide) ?_
      exact W.zret hx hb hr rfl (fun t ht hW => ⟨⟨_, (), rfl, by (try simp only [m_isIn, if_neg c_1, if_neg c_2, ite_self]); first | done | rfl | assumption | exact x_within_1 (by assumption), by dsimp only; rw [ht]; (try simp only [m_isIn, if_neg c_1, if_neg c_2, ite_self]); exact hP⟩, hS.F ht⟩) hS.2.2 d_M_isIn_18
set_option maxHeartbeats 4000000 in
set_option maxRecDepth 100000 in
theorem c_M_isPart (l : Launch) (g : wG) (n : Nat) (ad : Nat → Nat) (E : Nat → va_E) (a1 : Int32) : CtI l y_M_isPart ws_M_isPart ({ frames := 0, cells := 0, slots := 0, locals := 0 }) g n ad E E [.int a1] (m_isPart a1) := by
  intro sz
  refine Met.ofW (cc := b_M_isPart) (maxL := 1) (ret := (some .boolean)) (by decide +kernel) rfl ?_
  intro p e s m args below meth c s₁ B hml hv
  obtain ⟨rfl, hsz, hP, hK, hN, hJ⟩ := hv
  have hx := B.exec
  have hb := B.bytes
  have hr := B.returns
  have hts0 := atoms_spec (ws := ws_M_isPart) B.pre
  have hts : ∀ w ∈ tb, w.before _ s = true := fun w h => hts0 w (List.mem_cons_of_mem _ h)
  have hown : s.vm.findClass "HeapStepsModel" = some m.cls := findClass_of_methodNamed B.named
  have hlocks := B.notSynchronized
  subst hsz
  have hS : va_S (wA n ad s.heap.size) s.heap s.heap [] := va_S.rf
  have hl := lv_entry ([.int a1]) (n := 1) (Nat.le_of_ble_eq_true rfl)
  rw [lg_entry_eq]
  generalize (lg_sl ([.int a1]) ++ List.replicate (1 - (lg_sl ([.int a1])).length) Slot.unset).toArray = ls at hl ⊢
  have hl : lv_has ls 1 [(0, .int a1)] := hl
  refine lv_iload_n hx hb d_M_isPart_0 rfl (lv_at hl 0 rfl) ?_
  refine lv_if_lt (tgt := 13) hx hb d_M_isPart_1 (by decide) (fun c_1 => ?_) (fun c_1 => ?_)
  · skip
    refine lv_iconst (v := 0) hx hb d_M_isPart_13 (by decide) ?_
    exact W.zret hx hb hr rfl (fun t ht hW => ⟨⟨_, (), rfl, by (try simp only [m_isPart, if_pos c_1, ite_self]); first | done | rfl | assumption | exact x_within_1 (by assumption), by dsimp only; rw [ht]; (try simp only [m_isPart, if_pos c_1, ite_self]); exact hP⟩, hS.F ht⟩) hS.2.2 d_M_isPart_14
  · skip
    refine lv_iload_n hx hb d_M_isPart_4 rfl (lv_at hl 0 rfl) ?_
    refine lv_iconst (v := 3) hx hb d_M_isPart_5 (by decide) ?_
    refine lv_icmp_ge (tgt := 13) hx hb d_M_isPart_6 (by decide) (fun c_2 => ?_) (fun c_2 => ?_)
    · skip
      refine lv_iconst (v := 0) hx hb d_M_isPart_13 (by decide) ?_
      exact W.zret hx hb hr rfl (fun t ht hW => ⟨⟨_, (), rfl, by (try simp only [m_isPart, if_neg c_1, if_pos c_2, ite_self]); first | done | rfl | assumption | exact x_within_1 (by assumption), by dsimp only; rw [ht]; (try simp only [m_isPart, if_neg c_1, if_pos c_2, ite_self]); exact hP⟩, hS.F ht⟩) hS.2.2 d_M_isPart_14
    · skip
      refine lv_iconst (v := 1) hx hb d_M_isPart_9 (by decide) ?_
      refine lv_goto (tgt := 14) hx hb d_M_isPart_10 (by decide) ?_
      exact W.zret hx hb hr rfl (fun t ht hW => ⟨⟨_, (), rfl, by (try simp only [m_isPart, if_neg c_1, if_neg c_2, ite_self]); first | done | rfl | assumption | exact x_within_1 (by assumption), by dsimp only; rw [ht]; (try simp only [m_isPart, if_neg c_1, if_neg c_2, ite_self]); exact hP⟩, hS.F ht⟩) hS.2.2 d_M_isPart_14
set_option maxHeartbeats 4000000 in
set_option maxRecDepth 100000 in
theorem c_M_partOf (l : Launch) (g : wG) (n : Nat) (ad : Nat → Nat) (E : Nat → va_E) (u v : Int64) : CtL l y_M_partOf ws_M_partOf ({ frames := 0, cells := 0, slots := 0, locals := 0 }) g n ad E E [.long u, .long v] (x_mo u v) := by
  intro sz
  refine Met.ofW (cc := b_M_partOf) (maxL := 4) (ret := (some .long)) (by decide +kernel) rfl ?_
  intro p e s m args below meth c s₁ B hml hv
  obtain ⟨rfl, hsz, hP, hK, hN, hJ⟩ := hv
  have hx := B.exec
  have hb := B.bytes
  have hr := B.returns
  have hts0 := atoms_spec (ws := ws_M_partOf) B.pre
  have hts : ∀ w ∈ tb, w.before _ s = true := fun w h => hts0 w (List.mem_cons_of_mem _ h)
  have hown : s.vm.findClass "HeapStepsModel" = some m.cls := findClass_of_methodNamed B.named
  have hlocks := B.notSynchronized
  subst hsz
  have hS : va_S (wA n ad s.heap.size) s.heap s.heap [] := va_S.rf
  have hl := lv_entry ([.long u, .long v]) (n := 4) (Nat.le_of_ble_eq_true rfl)
  rw [lg_entry_eq]
  generalize (lg_sl ([.long u, .long v]) ++ List.replicate (4 - (lg_sl ([.long u, .long v])).length) Slot.unset).toArray = ls at hl ⊢
  have hl : lv_has ls 4 [(0, .long u), (2, .long v)] := hl
  refine lv_lload_n hx hb d_M_partOf_0 rfl (lv_at hl 0 rfl) ?_
  refine lv_ldc2 (v := 1000000) hx hb hown (hts _ tw_425) d_M_partOf_1 ?_
  refine lv_ldiv hx hb d_M_partOf_4 (by decide) ?_
  refine lv_lload_n hx hb d_M_partOf_5 rfl (lv_at hl 1 rfl) ?_
  refine lv_lmul hx hb d_M_partOf_6 ?_
  refine lv_lload_n hx hb d_M_partOf_7 rfl (lv_at hl 0 rfl) ?_
  refine lv_ldc2 (v := 1000000) hx hb hown (hts _ tw_425) d_M_partOf_8 ?_
  refine lv_lrem hx hb d_M_partOf_11 (by decide) ?_
  refine lv_lload_n hx hb d_M_partOf_12 rfl (lv_at hl 1 rfl) ?_
  refine lv_lmul hx hb d_M_partOf_13 ?_
  refine lv_ldc2 (v := 1000000) hx hb hown (hts _ tw_425) d_M_partOf_14 ?_
  refine lv_ldiv hx hb d_M_partOf_17 (by decide) ?_
  refine lv_ladd hx hb d_M_partOf_18 ?_
  exact W.lret hx hb hr (fun t ht hW => ⟨⟨_, (), rfl, by (try simp only [x_mo, ite_self]); first | done | rfl | assumption | exact x_within_1 (by assumption), by dsimp only; rw [ht]; (try simp only [x_mo, ite_self]); exact hP⟩, hS.F ht⟩) hS.2.2 d_M_partOf_19
set_option maxHeartbeats 4000000 in
set_option maxRecDepth 100000 in
theorem c_M_cut (l : Launch) (g : wG) (n : Nat) (ad : Nat → Nat) (E : Nat → va_E) (u v w : Int64) : CtL l y_M_cut ws_M_cut ({ frames := 0, cells := 0, slots := 0, locals := 0 }) g n ad E E [.long u, .long v, .long w] (m_cut u v w) := by
  intro sz
  refine Met.ofW (cc := b_M_cut) (maxL := 6) (ret := (some .long)) (by decide +kernel) rfl ?_
  intro p e s m args below meth c s₁ B hml hv
  obtain ⟨rfl, hsz, hP, hK, hN, hJ⟩ := hv
  have hx := B.exec
  have hb := B.bytes
  have hr := B.returns
  have hts0 := atoms_spec (ws := ws_M_cut) B.pre
  have hts : ∀ w ∈ tb, w.before _ s = true := fun w h => hts0 w (List.mem_cons_of_mem _ h)
  have hown : s.vm.findClass "HeapStepsModel" = some m.cls := findClass_of_methodNamed B.named
  have hlocks := B.notSynchronized
  subst hsz
  have hS : va_S (wA n ad s.heap.size) s.heap s.heap [] := va_S.rf
  have hl := lv_entry ([.long u, .long v, .long w]) (n := 6) (Nat.le_of_ble_eq_true rfl)
  rw [lg_entry_eq]
  generalize (lg_sl ([.long u, .long v, .long w]) ++ List.replicate (6 - (lg_sl ([.long u, .long v, .long w])).length) Slot.unset).toArray = ls at hl ⊢
  have hl : lv_has ls 6 [(0, .long u), (2, .long v), (4, .long w)] := hl
  refine lv_lload_n hx hb d_M_cut_0 rfl (lv_at hl 0 rfl) ?_
  refine lv_lload_n hx hb d_M_cut_1 rfl (lv_at hl 1 rfl) ?_
  refine W.lcmp hx hb d_M_cut_2 ?_
  refine lv_if_ge (tgt := 10) hx hb d_M_cut_3 (by decide) (fun c_1 => ?_) (fun c_1 => ?_)
  · skip
    refine lv_lload_n hx hb d_M_cut_10 rfl (lv_at hl 0 rfl) ?_
    refine lv_lload hx hb d_M_cut_11 (lv_at hl 2 rfl) ?_
    refine W.lcmp hx hb d_M_cut_13 ?_
    refine lv_if_le (tgt := 22) hx hb d_M_cut_14 (by decide) (fun c_2 => ?_) (fun c_2 => ?_)
    · skip
      refine lv_lload_n hx hb d_M_cut_22 rfl (lv_at hl 0 rfl) ?_
      exact W.lret hx hb hr (fun t ht hW => ⟨⟨_, (), rfl, by (try simp only [m_cut, if_pos c_1, if_pos c_2, ite_self]); first | done | rfl | assumption | exact x_within_1 (by assumption), by dsimp only; rw [ht]; (try simp only [m_cut, if_pos c_1, if_pos c_2, ite_self]); exact hP⟩, hS.F ht⟩) hS.2.2 d_M_cut_23
    · skip
      refine lv_lload hx hb d_M_cut_17 (lv_at hl 2 rfl) ?_
      refine lv_goto (tgt := 23) hx hb d_M_cut_19 (by decide) ?_
      exact W.lret hx hb hr (fun t ht hW => ⟨⟨_, (), rfl, by (try simp only [m_cut, if_pos c_1, if_neg c_2, ite_self]); first | done | rfl | assumption | exact x_within_1 (by assumption), by dsimp only; rw [ht]; (try simp only [m_cut, if_pos c_1, if_neg c_2, ite_self]); exact hP⟩, hS.F ht⟩) hS.2.2 d_M_cut_23
  · skip
    refine lv_lload_n hx hb d_M_cut_6 rfl (lv_at hl 1 rfl) ?_
    refine lv_goto (tgt := 23) hx hb d_M_cut_7 (by decide) ?_
    exact W.lret hx hb hr (fun t ht hW => ⟨⟨_, (), rfl, by (try simp only [m_cut, if_neg c_1, ite_self]); first | done | rfl | assumption | exact x_within_1 (by assumption), by dsimp only; rw [ht]; (try simp only [m_cut, if_neg c_1, ite_self]); exact hP⟩, hS.F ht⟩) hS.2.2 d_M_cut_23
set_option maxHeartbeats 4000000 in
set_option maxRecDepth 100000 in
theorem c_M_isLayer (l : Launch) (g : wG) (ad : Nat → Nat) {L : Nat} (hL : 1 ≤ L ∧ L ≤ 6) (x : xS) (a1 : Int32) : CtI l y_M_isLayer ws_M_isLayer ({ frames := 0, cells := 0, slots := 0, locals := 0 }) g 14 ad (mE g ad L x) (mE g ad L x) [.ref (ad 0), .int a1] (m_isLayer L a1) := by
  intro sz
  refine Met.ofW (cc := b_M_isLayer) (maxL := 2) (ret := (some .boolean)) (by decide +kernel) rfl ?_
  intro p e s m args below meth c s₁ B hml hv
  obtain ⟨rfl, hsz, hP, hK, hN, hJ⟩ := hv
  have hx := B.exec
  have hb := B.bytes
  have hr := B.returns
  have hts0 := atoms_spec (ws := ws_M_isLayer) B.pre
  have hts : ∀ w ∈ tb, w.before _ s = true := fun w h => hts0 w (List.mem_cons_of_mem _ h)
  have hown : s.vm.findClass "HeapStepsModel" = some m.cls := findClass_of_methodNamed B.named
  have hlocks := B.notSynchronized
  subst hsz
  have hS : va_S (wA 14 ad s.heap.size) s.heap s.heap [] := va_S.rf
  have hl := lv_entry ([.ref (ad 0), .int a1]) (n := 2) (Nat.le_of_ble_eq_true rfl)
  rw [lg_entry_eq]
  generalize (lg_sl ([.ref (ad 0), .int a1]) ++ List.replicate (2 - (lg_sl ([.ref (ad 0), .int a1])).length) Slot.unset).toArray = ls at hl ⊢
  have hl : lv_has ls 2 [(0, .ref (ad 0)), (1, .int a1)] := hl
  refine lv_iload_n hx hb d_M_isLayer_0 rfl (lv_at hl 1 rfl) ?_
  refine lv_if_lt (tgt := 16) hx hb d_M_isLayer_1 (by decide) (fun c_1 => ?_) (fun c_1 => ?_)
  · skip
    refine lv_iconst (v := 0) hx hb d_M_isLayer_16 (by decide) ?_
    exact W.zret hx hb hr rfl (fun t ht hW => ⟨⟨_, (), rfl, by (try simp only [m_isLayer, if_pos c_1, ite_self]); first | done | rfl | assumption | exact x_within_1 (by assumption), by dsimp only; rw [ht]; (try simp only [m_isLayer, if_pos c_1, ite_self]); exact hP⟩, hS.F ht⟩) hS.2.2 d_M_isLayer_17
  · skip
    refine lv_iload_n hx hb d_M_isLayer_4 rfl (lv_at hl 1 rfl) ?_
    refine lv_aload_n hx hb d_M_isLayer_5 rfl (lv_at hl 0 rfl) ?_
    refine wr_get hx hb hts in_M hown hK hP (0) (by omega) rfl rfl 0 (by decide) (hts _ tw_341) rfl d_M_isLayer_6 ?_
    refine lv_icmp_ge (tgt := 16) hx hb d_M_isLayer_9 (by decide) (fun c_2 => ?_) (fun c_2 => ?_)
    · skip
      refine lv_iconst (v := 0) hx hb d_M_isLayer_16 (by decide) ?_
      exact W.zret hx hb hr rfl (fun t ht hW => ⟨⟨_, (), rfl, by (try simp only [m_isLayer, if_neg c_1, if_pos c_2, ite_self]); first | done | rfl | assumption | exact x_within_1 (by assumption), by dsimp only; rw [ht]; (try simp only [m_isLayer, if_neg c_1, if_pos c_2, ite_self]); exact hP⟩, hS.F ht⟩) hS.2.2 d_M_isLayer_17
    · skip
      refine lv_iconst (v := 1) hx hb d_M_isLayer_12 (by decide) ?_
      refine lv_goto (tgt := 17) hx hb d_M_isLayer_13 (by decide) ?_
      exact W.zret hx hb hr rfl (fun t ht hW => ⟨⟨_, (), rfl, by (try simp only [m_isLayer, if_neg c_1, if_neg c_2, ite_self]); first | done | rfl | assumption | exact x_within_1 (by assumption), by dsimp only; rw [ht]; (try simp only [m_isLayer, if_neg c_1, if_neg c_2, ite_self]); exact hP⟩, hS.F ht⟩) hS.2.2 d_M_isLayer_17
end
section
set_option maxHeartbeats 4000000 in
set_option maxRecDepth 100000 in
theorem c_M_part (l : Launch) (g : wG) (ad : Nat → Nat) {L : Nat} (hL : 1 ≤ L ∧ L ≤ 6) (x : xS) (a1 a2 a3 : Int32) : CtI l y_M_part ws_M_part ({ frames := 1, cells := 0, slots := 0, locals := 25 }) g 14 ad (mE g ad L x) (mE g ad L (x_part L x a1 a2 a3).2) [.ref (ad 0), .int a1, .int a2, .int a3] (x_part L x a1 a2 a3).1 := by
  intro sz
  refine Met.ofW (cc := b_M_part) (maxL := 4) (ret := (some .boolean)) (by decide +kernel) rfl ?_
  intro p e s m args below meth c s₁ B hml hv
  obtain ⟨rfl, hsz, hP, hK, hN, hJ⟩ := hv
  have hx := B.exec
  have hb := B.bytes
  have hr := B.returns
  have hts0 := atoms_spec (ws := ws_M_part) B.pre
  have hts : ∀ w ∈ tb, w.before _ s = true := fun w h => hts0 w (List.mem_cons_of_mem _ h)
  have hown : s.vm.findClass "HeapStepsModel" = some m.cls := findClass_of_methodNamed B.named
  have hlocks := B.notSynchronized
  subst hsz
  have hS : va_S (wA 14 ad s.heap.size) s.heap s.heap [] := va_S.rf
  have hl := lv_entry ([.ref (ad 0), .int a1, .int a2, .int a3]) (n := 4) (Nat.le_of_ble_eq_true rfl)
  rw [lg_entry_eq]
  generalize (lg_sl ([.ref (ad 0), .int a1, .int a2, .int a3]) ++ List.replicate (4 - (lg_sl ([.ref (ad 0), .int a1, .int a2, .int a3])).length) Slot.unset).toArray = ls at hl ⊢
  have hl : lv_has ls 4 [(0, .ref (ad 0)), (1, .int a1), (2, .int a2), (3, .int a3)] := hl
  refine lv_aload_n hx hb d_M_part_0 rfl (lv_at hl 0 rfl) ?_
  refine lv_iload_n hx hb d_M_part_1 rfl (lv_at hl 1 rfl) ?_
  refine wc_i (va_runV (As := [.int a1]) (rest := []) ⟨hx, hb, hml, hown, hts⟩ (c_M_isLayer l g ad hL x a1 _) (cwV 1 hts (gd_V tw_418 tw_420 tw_12 tw_28 tw_421) rfl rfl rfl (by decide +kernel) ⟨Nat.le_of_ble_eq_true rfl, Nat.le_of_ble_eq_true rfl⟩) (wp_V hK hN hP hJ (0) (by omega) rfl rfl) rfl rfl hl.1 rfl (lv_room (Nat.le_of_ble_eq_true rfl)) d_M_part_2 ⟨Nat.zero_le _, Nat.zero_le _⟩) hS (fun H locs hP hS => ?_)
  rcases x_la_cases hL a1 with q_1 | ⟨i_2, hi_2, rfl, q_1⟩
  · rw [isLayer_none hL q_1]
    refine lv_if_eq (tgt := 47) hx hb d_M_part_5 (by decide) (fun c_3 => ?_) (fun c_3 => absurd (by decide) c_3)
    refine lv_iconst (v := 0) hx hb d_M_part_47 (by decide) ?_
    exact W.zret hx hb hr rfl (fun t ht hW => ⟨⟨_, (), rfl, by (try simp only [x_part, x_bringAt, x_bring, q_1, ite_self]); first | done | rfl | assumption | exact x_within_1 (by assumption), by dsimp only; rw [ht]; (try simp only [x_part, x_bringAt, x_bring, q_1, ite_self]); exact hP⟩, hS.F ht⟩) hS.2.2 d_M_part_48
  · rw [isLayer_some hL hi_2]
    refine lv_if_eq (tgt := 47) hx hb d_M_part_5 (by decide) (fun c_4 => absurd c_4 (by decide)) (fun c_4 => ?_)
    refine lv_iload_n hx hb d_M_part_8 rfl (lv_at hl 2 rfl) ?_
    refine wc_i (va_runS (As := [.int a2]) (rest := []) ⟨hx, hb, hml, hown, hts⟩ (c_M_isPart l g _ ad _ a2 _) (cwS 1 hts (gd_S tw_422 tw_423 tw_28 tw_424) rfl rfl rfl (by decide +kernel) ⟨Nat.le_of_ble_eq_true rfl, Nat.le_of_ble_eq_true rfl⟩) (wp_S hK hN hP hJ) rfl rfl hl.1 rfl (lv_room (Nat.le_of_ble_eq_true rfl)) d_M_part_9 ⟨Nat.zero_le _, Nat.zero_le _⟩) hS (fun H locs hP hS => ?_)
    rw [isPart_x a2]
    refine lv_if_eq (tgt := 47) hx hb d_M_part_12 (by decide) (fun c_5 => ?_) (fun c_5 => ?_)
    · skip
      refine lv_iconst (v := 0) hx hb d_M_part_47 (by decide) ?_
      exact W.zret hx hb hr rfl (fun t ht hW => ⟨⟨_, (), rfl, by (try simp only [x_part, x_bringAt, x_bring, if_pos c_5, q_1, ite_self]); first | done | rfl | assumption | exact x_within_1 (by assumption), by dsimp only; rw [ht]; (try simp only [x_part, x_bringAt, x_bring, if_pos c_5, q_1, ite_self]); exact hP⟩, hS.F ht⟩) hS.2.2 d_M_part_48
    · skip
      refine lv_iload_n hx hb d_M_part_15 rfl (lv_at hl 3 rfl) ?_
      refine lv_i2l hx hb d_M_part_16 rfl ?_
      refine lv_lconst (v := 0) hx hb d_M_part_17 (by decide) ?_
      refine lv_ldc2 (v := 1000000) hx hb hown (hts _ tw_425) d_M_part_18 ?_
      refine wc_i (va_runS (As := [.long (Int32.toInt64 a3), .long 0, .long 1000000]) (rest := []) ⟨hx, hb, hml, hown, hts⟩ (c_M_isIn l g _ ad _ (Int32.toInt64 a3) 0 1000000 _) (cwS 3 hts (gd_S tw_426 tw_427 tw_28 tw_428) rfl rfl rfl (by decide +kernel) ⟨Nat.le_of_ble_eq_true rfl, Nat.le_of_ble_eq_true rfl⟩) (wp_S hK hN hP hJ) rfl rfl hl.1 rfl (lv_room (Nat.le_of_ble_eq_true rfl)) d_M_part_21 ⟨Nat.zero_le _, Nat.zero_le _⟩) hS (fun H locs hP hS => ?_)
      rw [isIn_x (a := a3) (b := 0) (c := 1000000) (by decide) (by decide)]
      refine lv_if_eq (tgt := 47) hx hb d_M_part_24 (by decide) (fun c_6 => ?_) (fun c_6 => ?_)
      · skip
        refine lv_iconst (v := 0) hx hb d_M_part_47 (by decide) ?_
        exact W.zret hx hb hr rfl (fun t ht hW => ⟨⟨_, (), rfl, by (try simp only [x_part, x_bringAt, x_bring, if_neg c_5, if_pos c_6, q_1, ite_self]); first | done | rfl | assumption | exact x_within_1 (by assumption), by dsimp only; rw [ht]; (try simp only [x_part, x_bringAt, x_bring, if_neg c_5, if_pos c_6, q_1, ite_self]); exact hP⟩, hS.F ht⟩) hS.2.2 d_M_part_48
      · skip
        obtain ⟨k, hk, rfl⟩ := x_within_nat (n := 2) (by decide) c_5
        refine lv_aload_n hx hb d_M_part_27 rfl (lv_at hl 0 rfl) ?_
        refine wr_get hx hb hts in_M hown hK hP (0) (by omega) rfl rfl 1 (by decide) (hts _ tw_342) rfl d_M_part_28 ?_
        refine lv_iconst (v := 3) hx hb d_M_part_31 (by decide) ?_
        refine lv_iload_n hx hb d_M_part_32 rfl (lv_at hl 1 rfl) ?_
        refine lv_imul hx hb d_M_part_33 ?_
        refine lv_iload_n hx hb d_M_part_34 rfl (lv_at hl 2 rfl) ?_
        refine lv_iadd hx hb d_M_part_35 ?_
        refine wr_laldv (v := xT x i_2 k) hx hb hK hP (1) 0 (by omega) rfl rfl (3 * i_2 + k) (mI3 i_2 k) (by omega) (by omega) (mPA x i_2 k (by omega)) d_M_part_36 ?_
        refine lv_iload_n hx hb d_M_part_37 rfl (lv_at hl 3 rfl) ?_
        refine lv_i2l hx hb d_M_part_38 rfl ?_
        refine lv_ladd hx hb d_M_part_39 ?_
        refine lv_ldc2 (v := 1000000000) hx hb hown (hts _ tw_340) d_M_part_40 ?_
        refine W.lcmp hx hb d_M_part_43 ?_
        refine lv_if_le (tgt := 49) hx hb d_M_part_44 (by decide) (fun c_7 => ?_) (fun c_7 => ?_)
        · skip
          refine lv_aload_n hx hb d_M_part_49 rfl (lv_at hl 0 rfl) ?_
          refine wr_get hx hb hts in_M hown hK hP (0) (by omega) rfl rfl 1 (by decide) (hts _ tw_342) rfl d_M_part_50 ?_
          refine lv_iconst (v := 3) hx hb d_M_part_53 (by decide) ?_
          refine lv_iload_n hx hb d_M_part_54 rfl (lv_at hl 1 rfl) ?_
          refine lv_imul hx hb d_M_part_55 ?_
          refine lv_iload_n hx hb d_M_part_56 rfl (lv_at hl 2 rfl) ?_
          refine lv_iadd hx hb d_M_part_57 ?_
          refine lv_dup2_11 hx hb d_M_part_58 rfl rfl ?_
          refine wr_laldv (v := xT x i_2 k) hx hb hK hP (1) 0 (by omega) rfl rfl (3 * i_2 + k) (mI3 i_2 k) (by omega) (by omega) (mPA x i_2 k (by omega)) d_M_part_59 ?_
          refine lv_iload_n hx hb d_M_part_60 rfl (lv_at hl 3 rfl) ?_
          refine lv_i2l hx hb d_M_part_61 rfl ?_
          refine lv_ladd hx hb d_M_part_62 ?_
          obtain ⟨x_8, ex_8⟩ : ∃ z9, z9 = xT' x i_2 k ((xT x i_2 k) + (Int32.toInt64 a3)) := ⟨_, rfl⟩
          refine wr_last (E' := mE g ad L x_8) hx hb hK hP hJ hS (1) 0 (by omega) rfl rfl (3 * i_2 + k) (mI3 i_2 k) (by omega) (by omega) (by rw [ex_8]; exact mU_PA g ad L x (i := i_2) (p := k) (by omega) ((xT x i_2 k) + (Int32.toInt64 a3))) d_M_part_63 (fun H locs hP hS => ?_)
          refine lv_aload_n hx hb d_M_part_64 rfl (lv_at hl 0 rfl) ?_
          refine wr_get hx hb hts in_M hown hK hP (0) (by omega) rfl rfl 22 (by decide) (hts _ tw_363) rfl d_M_part_65 ?_
          refine lv_iconst (v := 0) hx hb d_M_part_68 (by decide) ?_
          refine lv_dup2_11 hx hb d_M_part_69 rfl rfl ?_
          refine wr_laldv (v := mPut x_8 0) hx hb hK hP (12) 0 (by omega) rfl rfl 0 (by decide) (by omega) (by omega) rfl d_M_part_70 ?_
          refine lv_iload_n hx hb d_M_part_71 rfl (lv_at hl 3 rfl) ?_
          refine lv_i2l hx hb d_M_part_72 rfl ?_
          refine lv_ladd hx hb d_M_part_73 ?_
          obtain ⟨x_9, ex_9⟩ : ∃ z9, z9 = xO' x_8 1 k ((xO x_8 1 k) + (Int32.toInt64 a3)) := ⟨_, rfl⟩
          refine wr_last (E' := mE g ad L x_9) hx hb hK hP hJ hS (12) 0 (by omega) rfl rfl 0 (by decide) (by omega) (by omega) (by rw [ex_9]; exact mU_PU0 g ad L x_8 (p := k) (by omega) (Int32.toInt64 a3)) d_M_part_74 (fun H locs hP hS => ?_)
          refine lv_iconst (v := 1) hx hb d_M_part_75 (by decide) ?_
          subst ex_8
          subst ex_9
          exact W.zret hx hb hr rfl (fun t ht hW => ⟨⟨_, (), rfl, by (try simp only [x_part, x_bringAt, x_bring, if_neg c_5, if_neg c_6, if_pos c_7, q_1, nI_clamp (show k < 2 ^ 31 by omega), ite_self]); first | done | rfl | assumption | exact x_within_1 (by assumption), by dsimp only; rw [ht]; (try simp only [x_part, x_bringAt, x_bring, if_neg c_5, if_neg c_6, if_pos c_7, q_1, nI_clamp (show k < 2 ^ 31 by omega), ite_self]); exact hP⟩, hS.F ht⟩) hS.2.2 d_M_part_76
        · skip
          refine lv_iconst (v := 0) hx hb d_M_part_47 (by decide) ?_
          exact W.zret hx hb hr rfl (fun t ht hW => ⟨⟨_, (), rfl, by (try simp only [x_part, x_bringAt, x_bring, if_neg c_5, if_neg c_6, if_neg c_7, q_1, nI_clamp (show k < 2 ^ 31 by omega), ite_self]); first | done | rfl | assumption | exact x_within_1 (by assumption), by dsimp only; rw [ht]; (try simp only [x_part, x_bringAt, x_bring, if_neg c_5, if_neg c_6, if_neg c_7, q_1, nI_clamp (show k < 2 ^ 31 by omega), ite_self]); exact hP⟩, hS.F ht⟩) hS.2.2 d_M_part_48
set_option maxHeartbeats 4000000 in
set_option maxRecDepth 100000 in
theorem c_M_water (l : Launch) (g : wG) (ad : Nat → Nat) {L : Nat} (hL : 1 ≤ L ∧ L ≤ 6) (x : xS) (a1 a2 : Int32) : CtI l y_M_water ws_M_water ({ frames := 1, cells := 0, slots := 0, locals := 25 }) g 14 ad (mE g ad L x) (mE g ad L (x_water L x a1 a2).2) [.ref (ad 0), .int a1, .int a2] (x_water L x a1 a2).1 := by
  intro sz
  refine Met.ofW (cc := b_M_water) (maxL := 3) (ret := (some .boolean)) (by decide +kernel) rfl ?_
  intro p e s m args below meth c s₁ B hml hv
  obtain ⟨rfl, hsz, hP, hK, hN, hJ⟩ := hv
  have hx := B.exec
  have hb := B.bytes
  have hr := B.returns
  have hts0 := atoms_spec (ws := ws_M_water) B.pre
  have hts : ∀ w ∈ tb, w.before _ s = true := fun w h => hts0 w (List.mem_cons_of_mem _ h)
  have hown : s.vm.findClass "HeapStepsModel" = some m.cls := findClass_of_methodNamed B.named
  have hlocks := B.notSynchronized
  subst hsz
  have hS : va_S (wA 14 ad s.heap.size) s.heap s.heap [] := va_S.rf
  have hl := lv_entry ([.ref (ad 0), .int a1, .int a2]) (n := 3) (Nat.le_of_ble_eq_true rfl)
  rw [lg_entry_eq]
  generalize (lg_sl ([.ref (ad 0), .int a1, .int a2]) ++ List.replicate (3 - (lg_sl ([.ref (ad 0), .int a1, .int a2])).length) Slot.unset).toArray = ls at hl ⊢
  have hl : lv_has ls 3 [(0, .ref (ad 0)), (1, .int a1), (2, .int a2)] := hl
  refine lv_aload_n hx hb d_M_water_0 rfl (lv_at hl 0 rfl) ?_
  refine lv_iload_n hx hb d_M_water_1 rfl (lv_at hl 1 rfl) ?_
  refine wc_i (va_runV (As := [.int a1]) (rest := []) ⟨hx, hb, hml, hown, hts⟩ (c_M_isLayer l g ad hL x a1 _) (cwV 1 hts (gd_V tw_418 tw_420 tw_12 tw_28 tw_421) rfl rfl rfl (by decide +kernel) ⟨Nat.le_of_ble_eq_true rfl, Nat.le_of_ble_eq_true rfl⟩) (wp_V hK hN hP hJ (0) (by omega) rfl rfl) rfl rfl hl.1 rfl (lv_room (Nat.le_of_ble_eq_true rfl)) d_M_water_2 ⟨Nat.zero_le _, Nat.zero_le _⟩) hS (fun H locs hP hS => ?_)
  rcases x_la_cases hL a1 with q_1 | ⟨i_2, hi_2, rfl, q_1⟩
  · rw [isLayer_none hL q_1]
    refine lv_if_eq (tgt := 36) hx hb d_M_water_5 (by decide) (fun c_3 => ?_) (fun c_3 => absurd (by decide) c_3)
    refine lv_iconst (v := 0) hx hb d_M_water_36 (by decide) ?_
    exact W.zret hx hb hr rfl (fun t ht hW => ⟨⟨_, (), rfl, by (try simp only [x_water, x_bringAt, x_bring, q_1, ite_self]); first | done | rfl | assumption | exact x_within_1 (by assumption), by dsimp only; rw [ht]; (try simp only [x_water, x_bringAt, x_bring, q_1, ite_self]); exact hP⟩, hS.F ht⟩) hS.2.2 d_M_water_37
  · rw [isLayer_some hL hi_2]
    refine lv_if_eq (tgt := 36) hx hb d_M_water_5 (by decide) (fun c_4 => absurd c_4 (by decide)) (fun c_4 => ?_)
    refine lv_iload_n hx hb d_M_water_8 rfl (lv_at hl 2 rfl) ?_
    refine lv_i2l hx hb d_M_water_9 rfl ?_
    refine lv_lconst (v := 0) hx hb d_M_water_10 (by decide) ?_
    refine lv_ldc2 (v := 1000000) hx hb hown (hts _ tw_425) d_M_water_11 ?_
    refine wc_i (va_runS (As := [.long (Int32.toInt64 a2), .long 0, .long 1000000]) (rest := []) ⟨hx, hb, hml, hown, hts⟩ (c_M_isIn l g _ ad _ (Int32.toInt64 a2) 0 1000000 _) (cwS 3 hts (gd_S tw_426 tw_427 tw_28 tw_428) rfl rfl rfl (by decide +kernel) ⟨Nat.le_of_ble_eq_true rfl, Nat.le_of_ble_eq_true rfl⟩) (wp_S hK hN hP hJ) rfl rfl hl.1 rfl (lv_room (Nat.le_of_ble_eq_true rfl)) d_M_water_14 ⟨Nat.zero_le _, Nat.zero_le _⟩) hS (fun H locs hP hS => ?_)
    rw [isIn_x (a := a2) (b := 0) (c := 1000000) (by decide) (by decide)]
    refine lv_if_eq (tgt := 36) hx hb d_M_water_17 (by decide) (fun c_5 => ?_) (fun c_5 => ?_)
    · skip
      refine lv_iconst (v := 0) hx hb d_M_water_36 (by decide) ?_
      exact W.zret hx hb hr rfl (fun t ht hW => ⟨⟨_, (), rfl, by (try simp only [x_water, x_bringAt, x_bring, if_pos c_5, q_1, ite_self]); first | done | rfl | assumption | exact x_within_1 (by assumption), by dsimp only; rw [ht]; (try simp only [x_water, x_bringAt, x_bring, if_pos c_5, q_1, ite_self]); exact hP⟩, hS.F ht⟩) hS.2.2 d_M_water_37
    · skip
      refine lv_aload_n hx hb d_M_water_20 rfl (lv_at hl 0 rfl) ?_
      refine wr_get hx hb hts in_M hown hK hP (0) (by omega) rfl rfl 2 (by decide) (hts _ tw_343) rfl d_M_water_21 ?_
      refine lv_iload_n hx hb d_M_water_24 rfl (lv_at hl 1 rfl) ?_
      refine wr_laldv (v := xT x i_2 3) hx hb hK hP (2) 0 (by omega) rfl rfl i_2 rfl (by omega) (by omega) rfl d_M_water_25 ?_
      refine lv_iload_n hx hb d_M_water_26 rfl (lv_at hl 2 rfl) ?_
      refine lv_i2l hx hb d_M_water_27 rfl ?_
      refine lv_ladd hx hb d_M_water_28 ?_
      refine lv_ldc2 (v := 1000000000) hx hb hown (hts _ tw_340) d_M_water_29 ?_
      refine W.lcmp hx hb d_M_water_32 ?_
      refine lv_if_le (tgt := 38) hx hb d_M_water_33 (by decide) (fun c_6 => ?_) (fun c_6 => ?_)
      · skip
        refine lv_aload_n hx hb d_M_water_38 rfl (lv_at hl 0 rfl) ?_
        refine wr_get hx hb hts in_M hown hK hP (0) (by omega) rfl rfl 2 (by decide) (hts _ tw_343) rfl d_M_water_39 ?_
        refine lv_iload_n hx hb d_M_water_42 rfl (lv_at hl 1 rfl) ?_
        refine lv_dup2_11 hx hb d_M_water_43 rfl rfl ?_
        refine wr_laldv (v := xT x i_2 3) hx hb hK hP (2) 0 (by omega) rfl rfl i_2 rfl (by omega) (by omega) rfl d_M_water_44 ?_
        refine lv_iload_n hx hb d_M_water_45 rfl (lv_at hl 2 rfl) ?_
        refine lv_i2l hx hb d_M_water_46 rfl ?_
        refine lv_ladd hx hb d_M_water_47 ?_
        obtain ⟨x_7, ex_7⟩ : ∃ z9, z9 = xT' x i_2 3 ((xT x i_2 3) + (Int32.toInt64 a2)) := ⟨_, rfl⟩
        refine wr_last (E' := mE g ad L x_7) hx hb hK hP hJ hS (2) 0 (by omega) rfl rfl i_2 rfl (by omega) (by omega) (by rw [ex_7]; exact mU_WA g ad L x i_2 ((xT x i_2 3) + (Int32.toInt64 a2))) d_M_water_48 (fun H locs hP hS => ?_)
        refine lv_aload_n hx hb d_M_water_49 rfl (lv_at hl 0 rfl) ?_
        refine wr_get hx hb hts in_M hown hK hP (0) (by omega) rfl rfl 22 (by decide) (hts _ tw_363) rfl d_M_water_50 ?_
        refine lv_iconst (v := 1) hx hb d_M_water_53 (by decide) ?_
        refine lv_dup2_11 hx hb d_M_water_54 rfl rfl ?_
        refine wr_laldv (v := mPut x_7 1) hx hb hK hP (12) 0 (by omega) rfl rfl 1 (by decide) (by omega) (by omega) rfl d_M_water_55 ?_
        refine lv_iload_n hx hb d_M_water_56 rfl (lv_at hl 2 rfl) ?_
        refine lv_i2l hx hb d_M_water_57 rfl ?_
        refine lv_ladd hx hb d_M_water_58 ?_
        obtain ⟨x_8, ex_8⟩ : ∃ z9, z9 = xO' x_7 1 3 ((mPut x_7 1) + (Int32.toInt64 a2)) := ⟨_, rfl⟩
        refine wr_last (E' := mE g ad L x_8) hx hb hK hP hJ hS (12) 0 (by omega) rfl rfl 1 (by decide) (by omega) (by omega) (by rw [ex_8]; exact mU_PU1 g ad L x_7 ((mPut x_7 1) + (Int32.toInt64 a2))) d_M_water_59 (fun H locs hP hS => ?_)
        refine lv_iconst (v := 1) hx hb d_M_water_60 (by decide) ?_
        subst ex_7
        subst ex_8
        exact W.zret hx hb hr rfl (fun t ht hW => ⟨⟨_, (), rfl, by (try simp only [x_water, x_bringAt, x_bring, if_neg c_5, if_pos c_6, q_1, ite_self]); first | done | rfl | assumption | exact x_within_1 (by assumption), by dsimp only; rw [ht]; (try simp only [x_water, x_bringAt, x_bring, if_neg c_5, if_pos c_6, q_1, ite_self]); exact hP⟩, hS.F ht⟩) hS.2.2 d_M_water_61
      · skip
        refine lv_iconst (v := 0) hx hb d_M_water_36 (by decide) ?_
        exact W.zret hx hb hr rfl (fun t ht hW => ⟨⟨_, (), rfl, by (try simp only [x_water, x_bringAt, x_bring, if_neg c_5, if_neg c_6, q_1, ite_self]); first | done | rfl | assumption | exact x_within_1 (by assumption), by dsimp only; rw [ht]; (try simp only [x_water, x_bringAt, x_bring, if_neg c_5, if_neg c_6, q_1, ite_self]); exact hP⟩, hS.F ht⟩) hS.2.2 d_M_water_37
set_option maxHeartbeats 4000000 in
set_option maxRecDepth 100000 in
theorem c_M_heat (l : Launch) (g : wG) (ad : Nat → Nat) {L : Nat} (hL : 1 ≤ L ∧ L ≤ 6) (x : xS) (a1 a2 : Int32) : CtI l y_M_heat ws_M_heat ({ frames := 1, cells := 0, slots := 0, locals := 25 }) g 14 ad (mE g ad L x) (mE g ad L (x_heat L x a1 a2).2) [.ref (ad 0), .int a1, .int a2] (x_heat L x a1 a2).1 := by
  intro sz
  refine Met.ofW (cc := b_M_heat) (maxL := 3) (ret := (some .boolean)) (by decide +kernel) rfl ?_
  intro p e s m args below meth c s₁ B hml hv
  obtain ⟨rfl, hsz, hP, hK, hN, hJ⟩ := hv
  have hx := B.exec
  have hb := B.bytes
  have hr := B.returns
  have hts0 := atoms_spec (ws := ws_M_heat) B.pre
  have hts : ∀ w ∈ tb, w.before _ s = true := fun w h => hts0 w (List.mem_cons_of_mem _ h)
  have hown : s.vm.findClass "HeapStepsModel" = some m.cls := findClass_of_methodNamed B.named
  have hlocks := B.notSynchronized
  subst hsz
  have hS : va_S (wA 14 ad s.heap.size) s.heap s.heap [] := va_S.rf
  have hl := lv_entry ([.ref (ad 0), .int a1, .int a2]) (n := 3) (Nat.le_of_ble_eq_true rfl)
  rw [lg_entry_eq]
  generalize (lg_sl ([.ref (ad 0), .int a1, .int a2]) ++ List.replicate (3 - (lg_sl ([.ref (ad 0), .int a1, .int a2])).length) Slot.unset).toArray = ls at hl ⊢
  have hl : lv_has ls 3 [(0, .ref (ad 0)), (1, .int a1), (2, .int a2)] := hl
  refine lv_aload_n hx hb d_M_heat_0 rfl (lv_at hl 0 rfl) ?_
  refine lv_iload_n hx hb d_M_heat_1 rfl (lv_at hl 1 rfl) ?_
  refine wc_i (va_runV (As := [.int a1]) (rest := []) ⟨hx, hb, hml, hown, hts⟩ (c_M_isLayer l g ad hL x a1 _) (cwV 1 hts (gd_V tw_418 tw_420 tw_12 tw_28 tw_421) rfl rfl rfl (by decide +kernel) ⟨Nat.le_of_ble_eq_true rfl, Nat.le_of_ble_eq_true rfl⟩) (wp_V hK hN hP hJ (0) (by omega) rfl rfl) rfl rfl hl.1 rfl (lv_room (Nat.le_of_ble_eq_true rfl)) d_M_heat_2 ⟨Nat.zero_le _, Nat.zero_le _⟩) hS (fun H locs hP hS => ?_)
  rcases x_la_cases hL a1 with q_1 | ⟨i_2, hi_2, rfl, q_1⟩
  · rw [isLayer_none hL q_1]
    refine lv_if_eq (tgt := 36) hx hb d_M_heat_5 (by decide) (fun c_3 => ?_) (fun c_3 => absurd (by decide) c_3)
    refine lv_iconst (v := 0) hx hb d_M_heat_36 (by decide) ?_
    exact W.zret hx hb hr rfl (fun t ht hW => ⟨⟨_, (), rfl, by (try simp only [x_heat, x_bringAt, x_bring, q_1, ite_self]); first | done | rfl | assumption | exact x_within_1 (by assumption), by dsimp only; rw [ht]; (try simp only [x_heat, x_bringAt, x_bring, q_1, ite_self]); exact hP⟩, hS.F ht⟩) hS.2.2 d_M_heat_37
  · rw [isLayer_some hL hi_2]
    refine lv_if_eq (tgt := 36) hx hb d_M_heat_5 (by decide) (fun c_4 => absurd c_4 (by decide)) (fun c_4 => ?_)
    refine lv_iload_n hx hb d_M_heat_8 rfl (lv_at hl 2 rfl) ?_
    refine lv_i2l hx hb d_M_heat_9 rfl ?_
    refine lv_lconst (v := 0) hx hb d_M_heat_10 (by decide) ?_
    refine lv_ldc2 (v := 1000000000) hx hb hown (hts _ tw_340) d_M_heat_11 ?_
    refine wc_i (va_runS (As := [.long (Int32.toInt64 a2), .long 0, .long 1000000000]) (rest := []) ⟨hx, hb, hml, hown, hts⟩ (c_M_isIn l g _ ad _ (Int32.toInt64 a2) 0 1000000000 _) (cwS 3 hts (gd_S tw_426 tw_427 tw_28 tw_428) rfl rfl rfl (by decide +kernel) ⟨Nat.le_of_ble_eq_true rfl, Nat.le_of_ble_eq_true rfl⟩) (wp_S hK hN hP hJ) rfl rfl hl.1 rfl (lv_room (Nat.le_of_ble_eq_true rfl)) d_M_heat_14 ⟨Nat.zero_le _, Nat.zero_le _⟩) hS (fun H locs hP hS => ?_)
    rw [isIn_x (a := a2) (b := 0) (c := 1000000000) (by decide) (by decide)]
    refine lv_if_eq (tgt := 36) hx hb d_M_heat_17 (by decide) (fun c_5 => ?_) (fun c_5 => ?_)
    · skip
      refine lv_iconst (v := 0) hx hb d_M_heat_36 (by decide) ?_
      exact W.zret hx hb hr rfl (fun t ht hW => ⟨⟨_, (), rfl, by (try simp only [x_heat, x_bringAt, x_bring, if_pos c_5, q_1, ite_self]); first | done | rfl | assumption | exact x_within_1 (by assumption), by dsimp only; rw [ht]; (try simp only [x_heat, x_bringAt, x_bring, if_pos c_5, q_1, ite_self]); exact hP⟩, hS.F ht⟩) hS.2.2 d_M_heat_37
    · skip
      refine lv_aload_n hx hb d_M_heat_20 rfl (lv_at hl 0 rfl) ?_
      refine wr_get hx hb hts in_M hown hK hP (0) (by omega) rfl rfl 3 (by decide) (hts _ tw_344) rfl d_M_heat_21 ?_
      refine lv_iload_n hx hb d_M_heat_24 rfl (lv_at hl 1 rfl) ?_
      refine wr_laldv (v := xT x i_2 4) hx hb hK hP (3) 0 (by omega) rfl rfl i_2 rfl (by omega) (by omega) rfl d_M_heat_25 ?_
      refine lv_iload_n hx hb d_M_heat_26 rfl (lv_at hl 2 rfl) ?_
      refine lv_i2l hx hb d_M_heat_27 rfl ?_
      refine lv_ladd hx hb d_M_heat_28 ?_
      refine lv_ldc2 (v := 1000000000000000) hx hb hown (hts _ tw_437) d_M_heat_29 ?_
      refine W.lcmp hx hb d_M_heat_32 ?_
      refine lv_if_le (tgt := 38) hx hb d_M_heat_33 (by decide) (fun c_6 => ?_) (fun c_6 => ?_)
      · skip
        refine lv_aload_n hx hb d_M_heat_38 rfl (lv_at hl 0 rfl) ?_
        refine wr_get hx hb hts in_M hown hK hP (0) (by omega) rfl rfl 3 (by decide) (hts _ tw_344) rfl d_M_heat_39 ?_
        refine lv_iload_n hx hb d_M_heat_42 rfl (lv_at hl 1 rfl) ?_
        refine lv_dup2_11 hx hb d_M_heat_43 rfl rfl ?_
        refine wr_laldv (v := xT x i_2 4) hx hb hK hP (3) 0 (by omega) rfl rfl i_2 rfl (by omega) (by omega) rfl d_M_heat_44 ?_
        refine lv_iload_n hx hb d_M_heat_45 rfl (lv_at hl 2 rfl) ?_
        refine lv_i2l hx hb d_M_heat_46 rfl ?_
        refine lv_ladd hx hb d_M_heat_47 ?_
        obtain ⟨x_7, ex_7⟩ : ∃ z9, z9 = xT' x i_2 4 ((xT x i_2 4) + (Int32.toInt64 a2)) := ⟨_, rfl⟩
        refine wr_last (E' := mE g ad L x_7) hx hb hK hP hJ hS (3) 0 (by omega) rfl rfl i_2 rfl (by omega) (by omega) (by rw [ex_7]; exact mU_HE g ad L x i_2 ((xT x i_2 4) + (Int32.toInt64 a2))) d_M_heat_48 (fun H locs hP hS => ?_)
        refine lv_aload_n hx hb d_M_heat_49 rfl (lv_at hl 0 rfl) ?_
        refine wr_get hx hb hts in_M hown hK hP (0) (by omega) rfl rfl 22 (by decide) (hts _ tw_363) rfl d_M_heat_50 ?_
        refine lv_iconst (v := 2) hx hb d_M_heat_53 (by decide) ?_
        refine lv_dup2_11 hx hb d_M_heat_54 rfl rfl ?_
        refine wr_laldv (v := mPut x_7 2) hx hb hK hP (12) 0 (by omega) rfl rfl 2 (by decide) (by omega) (by omega) rfl d_M_heat_55 ?_
        refine lv_iload_n hx hb d_M_heat_56 rfl (lv_at hl 2 rfl) ?_
        refine lv_i2l hx hb d_M_heat_57 rfl ?_
        refine lv_ladd hx hb d_M_heat_58 ?_
        obtain ⟨x_8, ex_8⟩ : ∃ z9, z9 = xO' x_7 1 4 ((mPut x_7 2) + (Int32.toInt64 a2)) := ⟨_, rfl⟩
        refine wr_last (E' := mE g ad L x_8) hx hb hK hP hJ hS (12) 0 (by omega) rfl rfl 2 (by decide) (by omega) (by omega) (by rw [ex_8]; exact mU_PU2 g ad L x_7 ((mPut x_7 2) + (Int32.toInt64 a2))) d_M_heat_59 (fun H locs hP hS => ?_)
        refine lv_iconst (v := 1) hx hb d_M_heat_60 (by decide) ?_
        subst ex_7
        subst ex_8
        exact W.zret hx hb hr rfl (fun t ht hW => ⟨⟨_, (), rfl, by (try simp only [x_heat, x_bringAt, x_bring, if_neg c_5, if_pos c_6, q_1, ite_self]); first | done | rfl | assumption | exact x_within_1 (by assumption), by dsimp only; rw [ht]; (try simp only [x_heat, x_bringAt, x_bring, if_neg c_5, if_pos c_6, q_1, ite_self]); exact hP⟩, hS.F ht⟩) hS.2.2 d_M_heat_61
      · skip
        refine lv_iconst (v := 0) hx hb d_M_heat_36 (by decide) ?_
        exact W.zret hx hb hr rfl (fun t ht hW => ⟨⟨_, (), rfl, by (try simp only [x_heat, x_bringAt, x_bring, if_neg c_5, if_neg c_6, q_1, ite_self]); first | done | rfl | assumption | exact x_within_1 (by assumption), by dsimp only; rw [ht]; (try simp only [x_heat, x_bringAt, x_bring, if_neg c_5, if_neg c_6, q_1, ite_self]); exact hP⟩, hS.F ht⟩) hS.2.2 d_M_heat_37
set_option maxHeartbeats 4000000 in
set_option maxRecDepth 100000 in
theorem c_M_yields (l : Launch) (g : wG) (ad : Nat → Nat) {L : Nat} (hL : 1 ≤ L ∧ L ≤ 6) (x : xS) (a1 a2 a3 : Int32) : CtI l y_M_yields ws_M_yields ({ frames := 1, cells := 0, slots := 0, locals := 25 }) g 14 ad (mE g ad L x) (mE g ad L (x_yields x a1 a2 a3).2) [.ref (ad 0), .int a1, .int a2, .int a3] (x_yields x a1 a2 a3).1 := by
  intro sz
  refine Met.ofW (cc := b_M_yields) (maxL := 4) (ret := (some .boolean)) (by decide +kernel) rfl ?_
  intro p e s m args below meth c s₁ B hml hv
  obtain ⟨rfl, hsz, hP, hK, hN, hJ⟩ := hv
  have hx := B.exec
  have hb := B.bytes
  have hr := B.returns
  have hts0 := atoms_spec (ws := ws_M_yields) B.pre
  have hts : ∀ w ∈ tb, w.before _ s = true := fun w h => hts0 w (List.mem_cons_of_mem _ h)
  have hown : s.vm.findClass "HeapStepsModel" = some m.cls := findClass_of_methodNamed B.named
  have hlocks := B.notSynchronized
  subst hsz
  have hS : va_S (wA 14 ad s.heap.size) s.heap s.heap [] := va_S.rf
  have hl := lv_entry ([.ref (ad 0), .int a1, .int a2, .int a3]) (n := 4) (Nat.le_of_ble_eq_true rfl)
  rw [lg_entry_eq]
  generalize (lg_sl ([.ref (ad 0), .int a1, .int a2, .int a3]) ++ List.replicate (4 - (lg_sl ([.ref (ad 0), .int a1, .int a2, .int a3])).length) Slot.unset).toArray = ls at hl ⊢
  have hl : lv_has ls 4 [(0, .ref (ad 0)), (1, .int a1), (2, .int a2), (3, .int a3)] := hl
  refine lv_iload_n hx hb d_M_yields_0 rfl (lv_at hl 1 rfl) ?_
  refine wc_i (va_runS (As := [.int a1]) (rest := []) ⟨hx, hb, hml, hown, hts⟩ (c_M_isPart l g _ ad _ a1 _) (cwS 1 hts (gd_S tw_422 tw_423 tw_28 tw_424) rfl rfl rfl (by decide +kernel) ⟨Nat.le_of_ble_eq_true rfl, Nat.le_of_ble_eq_true rfl⟩) (wp_S hK hN hP hJ) rfl rfl hl.1 rfl (lv_room (Nat.le_of_ble_eq_true rfl)) d_M_yields_1 ⟨Nat.zero_le _, Nat.zero_le _⟩) hS (fun H locs hP hS => ?_)
  rw [isPart_x a1]
  refine lv_if_eq (tgt := 31) hx hb d_M_yields_4 (by decide) (fun c_1 => ?_) (fun c_1 => ?_)
  · skip
    refine lv_iconst (v := 0) hx hb d_M_yields_31 (by decide) ?_
    exact W.zret hx hb hr rfl (fun t ht hW => ⟨⟨_, (), rfl, by (try simp only [x_yields, if_pos c_1, ite_self]); first | done | rfl | assumption | exact x_within_1 (by assumption), by dsimp only; rw [ht]; (try simp only [x_yields, if_pos c_1, ite_self]); exact hP⟩, hS.F ht⟩) hS.2.2 d_M_yields_32
  · skip
    refine lv_iload_n hx hb d_M_yields_7 rfl (lv_at hl 2 rfl) ?_
    refine lv_i2l hx hb d_M_yields_8 rfl ?_
    refine lv_lconst (v := 0) hx hb d_M_yields_9 (by decide) ?_
    refine lv_ldc2 (v := 100000) hx hb hown (hts _ tw_442) d_M_yields_10 ?_
    refine wc_i (va_runS (As := [.long (Int32.toInt64 a2), .long 0, .long 100000]) (rest := []) ⟨hx, hb, hml, hown, hts⟩ (c_M_isIn l g _ ad _ (Int32.toInt64 a2) 0 100000 _) (cwS 3 hts (gd_S tw_426 tw_427 tw_28 tw_428) rfl rfl rfl (by decide +kernel) ⟨Nat.le_of_ble_eq_true rfl, Nat.le_of_ble_eq_true rfl⟩) (wp_S hK hN hP hJ) rfl rfl hl.1 rfl (lv_room (Nat.le_of_ble_eq_true rfl)) d_M_yields_13 ⟨Nat.zero_le _, Nat.zero_le _⟩) hS (fun H locs hP hS => ?_)
    rw [isIn_x (a := a2) (b := 0) (c := 100000) (by decide) (by decide)]
    refine lv_if_eq (tgt := 31) hx hb d_M_yields_16 (by decide) (fun c_2 => ?_) (fun c_2 => ?_)
    · skip
      refine lv_iconst (v := 0) hx hb d_M_yields_31 (by decide) ?_
      exact W.zret hx hb hr rfl (fun t ht hW => ⟨⟨_, (), rfl, by (try simp only [x_yields, if_neg c_1, if_pos c_2, ite_self]); first | done | rfl | assumption | exact x_within_1 (by assumption), by dsimp only; rw [ht]; (try simp only [x_yields, if_neg c_1, if_pos c_2, ite_self]); exact hP⟩, hS.F ht⟩) hS.2.2 d_M_yields_32
    · skip
      refine lv_iload_n hx hb d_M_yields_19 rfl (lv_at hl 3 rfl) ?_
      refine lv_i2l hx hb d_M_yields_20 rfl ?_
      refine lv_lconst (v := 0) hx hb d_M_yields_21 (by decide) ?_
      refine lv_ldc2 (v := 1000) hx hb hown (hts _ tw_447) d_M_yields_22 ?_
      refine wc_i (va_runS (As := [.long (Int32.toInt64 a3), .long 0, .long 1000]) (rest := []) ⟨hx, hb, hml, hown, hts⟩ (c_M_isIn l g _ ad _ (Int32.toInt64 a3) 0 1000 _) (cwS 3 hts (gd_S tw_426 tw_427 tw_28 tw_428) rfl rfl rfl (by decide +kernel) ⟨Nat.le_of_ble_eq_true rfl, Nat.le_of_ble_eq_true rfl⟩) (wp_S hK hN hP hJ) rfl rfl hl.1 rfl (lv_room (Nat.le_of_ble_eq_true rfl)) d_M_yields_25 ⟨Nat.zero_le _, Nat.zero_le _⟩) hS (fun H locs hP hS => ?_)
      rw [isIn_x (a := a3) (b := 0) (c := 1000) (by decide) (by decide)]
      refine lv_if_ne (tgt := 33) hx hb d_M_yields_28 (by decide) (fun c_3 => ?_) (fun c_3 => ?_)
      · skip
        obtain ⟨k, hk, rfl⟩ := x_within_nat (n := 2) (by decide) c_1
        refine lv_aload_n hx hb d_M_yields_33 rfl (lv_at hl 0 rfl) ?_
        refine wr_get hx hb hts in_M hown hK hP (0) (by omega) rfl rfl 9 (by decide) (hts _ tw_350) rfl d_M_yields_34 ?_
        refine lv_iload_n hx hb d_M_yields_37 rfl (lv_at hl 1 rfl) ?_
        refine lv_iload_n hx hb d_M_yields_38 rfl (lv_at hl 2 rfl) ?_
        obtain ⟨x_4, ex_4⟩ : ∃ z9, z9 = xY' x k 1 a2 := ⟨_, rfl⟩
        refine wr_iast (E' := mE g ad L x_4) hx hb hK hP hJ hS (9) 1 (by omega) rfl rfl k rfl (by omega) (by omega) (by rw [ex_4]; exact mU_HY g ad L x k a2) d_M_yields_39 (fun H locs hP hS => ?_)
        refine lv_aload_n hx hb d_M_yields_40 rfl (lv_at hl 0 rfl) ?_
        refine wr_get hx hb hts in_M hown hK hP (0) (by omega) rfl rfl 10 (by decide) (hts _ tw_351) rfl d_M_yields_41 ?_
        refine lv_iload_n hx hb d_M_yields_44 rfl (lv_at hl 1 rfl) ?_
        refine lv_iload_n hx hb d_M_yields_45 rfl (lv_at hl 3 rfl) ?_
        obtain ⟨x_5, ex_5⟩ : ∃ z9, z9 = xY' x_4 k 2 a3 := ⟨_, rfl⟩
        refine wr_iast (E' := mE g ad L x_5) hx hb hK hP hJ hS (10) 1 (by omega) rfl rfl k rfl (by omega) (by omega) (by rw [ex_5]; exact mU_WY g ad L x_4 k a3) d_M_yields_46 (fun H locs hP hS => ?_)
        refine lv_iconst (v := 1) hx hb d_M_yields_47 (by decide) ?_
        subst ex_4
        subst ex_5
        exact W.zret hx hb hr rfl (fun t ht hW => ⟨⟨_, (), rfl, by (try simp only [x_yields, if_neg c_1, if_neg c_2, if_neg c_3, nI_clamp (show k < 2 ^ 31 by omega), ite_self]); first | done | rfl | assumption | exact x_within_1 (by assumption), by dsimp only; rw [ht]; (try simp only [x_yields, if_neg c_1, if_neg c_2, if_neg c_3, nI_clamp (show k < 2 ^ 31 by omega), ite_self]); exact hP⟩, hS.F ht⟩) hS.2.2 d_M_yields_48
      · skip
        refine lv_iconst (v := 0) hx hb d_M_yields_31 (by decide) ?_
        exact W.zret hx hb hr rfl (fun t ht hW => ⟨⟨_, (), rfl, by (try simp only [x_yields, if_neg c_1, if_neg c_2, if_pos c_3, ite_self]); first | done | rfl | assumption | exact x_within_1 (by assumption), by dsimp only; rw [ht]; (try simp only [x_yields, if_neg c_1, if_neg c_2, if_pos c_3, ite_self]); exact hP⟩, hS.F ht⟩) hS.2.2 d_M_yields_32
set_option maxHeartbeats 4000000 in
set_option maxRecDepth 100000 in
theorem c_M_bounds (l : Launch) (g : wG) (ad : Nat → Nat) {L : Nat} (hL : 1 ≤ L ∧ L ≤ 6) (x : xS) (a1 a2 a3 : Int32) : CtI l y_M_bounds ws_M_bounds ({ frames := 1, cells := 0, slots := 0, locals := 25 }) g 14 ad (mE g ad L x) (mE g ad L (x_bounds L x a1 a2 a3).2) [.ref (ad 0), .int a1, .int a2, .int a3] (x_bounds L x a1 a2 a3).1 := by
  intro sz
  refine Met.ofW (cc := b_M_bounds) (maxL := 4) (ret := (some .boolean)) (by decide +kernel) rfl ?_
  intro p e s m args below meth c s₁ B hml hv
  obtain ⟨rfl, hsz, hP, hK, hN, hJ⟩ := hv
  have hx := B.exec
  have hb := B.bytes
  have hr := B.returns
  have hts0 := atoms_spec (ws := ws_M_bounds) B.pre
  have hts : ∀ w ∈ tb, w.before _ s = true := fun w h => hts0 w (List.mem_cons_of_mem _ h)
  have hown : s.vm.findClass "HeapStepsModel" = some m.cls := findClass_of_methodNamed B.named
  have hlocks := B.notSynchronized
  subst hsz
  have hS : va_S (wA 14 ad s.heap.size) s.heap s.heap [] := va_S.rf
  have hl := lv_entry ([.ref (ad 0), .int a1, .int a2, .int a3]) (n := 4) (Nat.le_of_ble_eq_true rfl)
  rw [lg_entry_eq]
  generalize (lg_sl ([.ref (ad 0), .int a1, .int a2, .int a3]) ++ List.replicate (4 - (lg_sl ([.ref (ad 0), .int a1, .int a2, .int a3])).length) Slot.unset).toArray = ls at hl ⊢
  have hl : lv_has ls 4 [(0, .ref (ad 0)), (1, .int a1), (2, .int a2), (3, .int a3)] := hl
  refine lv_aload_n hx hb d_M_bounds_0 rfl (lv_at hl 0 rfl) ?_
  refine lv_iload_n hx hb d_M_bounds_1 rfl (lv_at hl 1 rfl) ?_
  refine wc_i (va_runV (As := [.int a1]) (rest := []) ⟨hx, hb, hml, hown, hts⟩ (c_M_isLayer l g ad hL x a1 _) (cwV 1 hts (gd_V tw_418 tw_420 tw_12 tw_28 tw_421) rfl rfl rfl (by decide +kernel) ⟨Nat.le_of_ble_eq_true rfl, Nat.le_of_ble_eq_true rfl⟩) (wp_V hK hN hP hJ (0) (by omega) rfl rfl) rfl rfl hl.1 rfl (lv_room (Nat.le_of_ble_eq_true rfl)) d_M_bounds_2 ⟨Nat.zero_le _, Nat.zero_le _⟩) hS (fun H locs hP hS => ?_)
  rcases x_la_cases hL a1 with q_1 | ⟨i_2, hi_2, rfl, q_1⟩
  · rw [isLayer_none hL q_1]
    refine lv_if_eq (tgt := 32) hx hb d_M_bounds_5 (by decide) (fun c_3 => ?_) (fun c_3 => absurd (by decide) c_3)
    refine lv_iconst (v := 0) hx hb d_M_bounds_32 (by decide) ?_
    exact W.zret hx hb hr rfl (fun t ht hW => ⟨⟨_, (), rfl, by (try simp only [x_bounds, q_1, ite_self]); first | done | rfl | assumption | exact x_within_1 (by assumption), by dsimp only; rw [ht]; (try simp only [x_bounds, q_1, ite_self]); exact hP⟩, hS.F ht⟩) hS.2.2 d_M_bounds_33
  · rw [isLayer_some hL hi_2]
    refine lv_if_eq (tgt := 32) hx hb d_M_bounds_5 (by decide) (fun c_4 => absurd c_4 (by decide)) (fun c_4 => ?_)
    refine lv_iload_n hx hb d_M_bounds_8 rfl (lv_at hl 2 rfl) ?_
    refine lv_i2l hx hb d_M_bounds_9 rfl ?_
    refine lv_lconst (v := 0) hx hb d_M_bounds_10 (by decide) ?_
    refine lv_ldc2 (v := 1000000000) hx hb hown (hts _ tw_340) d_M_bounds_11 ?_
    refine wc_i (va_runS (As := [.long (Int32.toInt64 a2), .long 0, .long 1000000000]) (rest := []) ⟨hx, hb, hml, hown, hts⟩ (c_M_isIn l g _ ad _ (Int32.toInt64 a2) 0 1000000000 _) (cwS 3 hts (gd_S tw_426 tw_427 tw_28 tw_428) rfl rfl rfl (by decide +kernel) ⟨Nat.le_of_ble_eq_true rfl, Nat.le_of_ble_eq_true rfl⟩) (wp_S hK hN hP hJ) rfl rfl hl.1 rfl (lv_room (Nat.le_of_ble_eq_true rfl)) d_M_bounds_14 ⟨Nat.zero_le _, Nat.zero_le _⟩) hS (fun H locs hP hS => ?_)
    rw [isIn_x (a := a2) (b := 0) (c := 1000000000) (by decide) (by decide)]
    refine lv_if_eq (tgt := 32) hx hb d_M_bounds_17 (by decide) (fun c_5 => ?_) (fun c_5 => ?_)
    · skip
      refine lv_iconst (v := 0) hx hb d_M_bounds_32 (by decide) ?_
      exact W.zret hx hb hr rfl (fun t ht hW => ⟨⟨_, (), rfl, by (try simp only [x_bounds, if_pos c_5, q_1, ite_self]); first | done | rfl | assumption | exact x_within_1 (by assumption), by dsimp only; rw [ht]; (try simp only [x_bounds, if_pos c_5, q_1, ite_self]); exact hP⟩, hS.F ht⟩) hS.2.2 d_M_bounds_33
    · skip
      refine lv_iload_n hx hb d_M_bounds_20 rfl (lv_at hl 3 rfl) ?_
      refine lv_i2l hx hb d_M_bounds_21 rfl ?_
      refine lv_lconst (v := 0) hx hb d_M_bounds_22 (by decide) ?_
      refine lv_ldc2 (v := 1000000000) hx hb hown (hts _ tw_340) d_M_bounds_23 ?_
      refine wc_i (va_runS (As := [.long (Int32.toInt64 a3), .long 0, .long 1000000000]) (rest := []) ⟨hx, hb, hml, hown, hts⟩ (c_M_isIn l g _ ad _ (Int32.toInt64 a3) 0 1000000000 _) (cwS 3 hts (gd_S tw_426 tw_427 tw_28 tw_428) rfl rfl rfl (by decide +kernel) ⟨Nat.le_of_ble_eq_true rfl, Nat.le_of_ble_eq_true rfl⟩) (wp_S hK hN hP hJ) rfl rfl hl.1 rfl (lv_room (Nat.le_of_ble_eq_true rfl)) d_M_bounds_26 ⟨Nat.zero_le _, Nat.zero_le _⟩) hS (fun H locs hP hS => ?_)
      rw [isIn_x (a := a3) (b := 0) (c := 1000000000) (by decide) (by decide)]
      refine lv_if_ne (tgt := 34) hx hb d_M_bounds_29 (by decide) (fun c_6 => ?_) (fun c_6 => ?_)
      · skip
        refine lv_aload_n hx hb d_M_bounds_34 rfl (lv_at hl 0 rfl) ?_
        refine wr_get hx hb hts in_M hown hK hP (0) (by omega) rfl rfl 4 (by decide) (hts _ tw_345) rfl d_M_bounds_35 ?_
        refine lv_iload_n hx hb d_M_bounds_38 rfl (lv_at hl 1 rfl) ?_
        refine lv_iload_n hx hb d_M_bounds_39 rfl (lv_at hl 2 rfl) ?_
        refine lv_i2l hx hb d_M_bounds_40 rfl ?_
        obtain ⟨x_7, ex_7⟩ : ∃ z9, z9 = xB' x i_2 0 a2 := ⟨_, rfl⟩
        refine wr_last (E' := mE g ad L x_7) hx hb hK hP hJ hS (4) 0 (by omega) rfl rfl i_2 rfl (by omega) (by omega) (by rw [ex_7]; exact mU_DR g ad L x i_2 a2) d_M_bounds_41 (fun H locs hP hS => ?_)
        refine lv_aload_n hx hb d_M_bounds_42 rfl (lv_at hl 0 rfl) ?_
        refine wr_get hx hb hts in_M hown hK hP (0) (by omega) rfl rfl 5 (by decide) (hts _ tw_346) rfl d_M_bounds_43 ?_
        refine lv_iload_n hx hb d_M_bounds_46 rfl (lv_at hl 1 rfl) ?_
        refine lv_iload_n hx hb d_M_bounds_47 rfl (lv_at hl 3 rfl) ?_
        refine lv_i2l hx hb d_M_bounds_48 rfl ?_
        obtain ⟨x_8, ex_8⟩ : ∃ z9, z9 = xB' x_7 i_2 1 a3 := ⟨_, rfl⟩
        refine wr_last (E' := mE g ad L x_8) hx hb hK hP hJ hS (5) 0 (by omega) rfl rfl i_2 rfl (by omega) (by omega) (by rw [ex_8]; exact mU_HO g ad L x_7 i_2 a3) d_M_bounds_49 (fun H locs hP hS => ?_)
        refine lv_iconst (v := 1) hx hb d_M_bounds_50 (by decide) ?_
        subst ex_7
        subst ex_8
        exact W.zret hx hb hr rfl (fun t ht hW => ⟨⟨_, (), rfl, by (try simp only [x_bounds, if_neg c_5, if_neg c_6, q_1, ite_self]); first | done | rfl | assumption | exact x_within_1 (by assumption), by dsimp only; rw [ht]; (try simp only [x_bounds, if_neg c_5, if_neg c_6, q_1, ite_self]); exact hP⟩, hS.F ht⟩) hS.2.2 d_M_bounds_51
      · skip
        refine lv_iconst (v := 0) hx hb d_M_bounds_32 (by decide) ?_
        exact W.zret hx hb hr rfl (fun t ht hW => ⟨⟨_, (), rfl, by (try simp only [x_bounds, if_neg c_5, if_pos c_6, q_1, ite_self]); first | done | rfl | assumption | exact x_within_1 (by assumption), by dsimp only; rw [ht]; (try simp only [x_bounds, if_neg c_5, if_pos c_6, q_1, ite_self]); exact hP⟩, hS.F ht⟩) hS.2.2 d_M_bounds_33
set_option maxHeartbeats 4000000 in
set_option maxRecDepth 100000 in
theorem c_M_rain (l : Launch) (g : wG) (ad : Nat → Nat) {L : Nat} (hL : 1 ≤ L ∧ L ≤ 6) (x : xS) (a1 : Int32) : CtI l y_M_rain ws_M_rain ({ frames := 1, cells := 0, slots := 0, locals := 25 }) g 14 ad (mE g ad L x) (mE g ad L (x_rain x a1).2) [.ref (ad 0), .int a1] (x_rain x a1).1 := by
  intro sz
  refine Met.ofW (cc := b_M_rain) (maxL := 2) (ret := (some .boolean)) (by decide +kernel) rfl ?_
  intro p e s m args below meth c s₁ B hml hv
  obtain ⟨rfl, hsz, hP, hK, hN, hJ⟩ := hv
  have hx := B.exec
  have hb := B.bytes
  have hr := B.returns
  have hts0 := atoms_spec (ws := ws_M_rain) B.pre
  have hts : ∀ w ∈ tb, w.before _ s = true := fun w h => hts0 w (List.mem_cons_of_mem _ h)
  have hown : s.vm.findClass "HeapStepsModel" = some m.cls := findClass_of_methodNamed B.named
  have hlocks := B.notSynchronized
  subst hsz
  have hS : va_S (wA 14 ad s.heap.size) s.heap s.heap [] := va_S.rf
  have hl := lv_entry ([.ref (ad 0), .int a1]) (n := 2) (Nat.le_of_ble_eq_true rfl)
  rw [lg_entry_eq]
  generalize (lg_sl ([.ref (ad 0), .int a1]) ++ List.replicate (2 - (lg_sl ([.ref (ad 0), .int a1])).length) Slot.unset).toArray = ls at hl ⊢
  have hl : lv_has ls 2 [(0, .ref (ad 0)), (1, .int a1)] := hl
  refine lv_aload_n hx hb d_M_rain_0 rfl (lv_at hl 0 rfl) ?_
  refine lv_iload_n hx hb d_M_rain_1 rfl (lv_at hl 1 rfl) ?_
  refine lv_i2l hx hb d_M_rain_2 rfl ?_
  refine lv_lconst (v := 0) hx hb d_M_rain_3 (by decide) ?_
  refine lv_ldc2 (v := 100000) hx hb hown (hts _ tw_442) d_M_rain_4 ?_
  refine wc_i (va_runS (As := [.long (Int32.toInt64 a1), .long 0, .long 100000]) (rest := [.ref (ad 0)]) ⟨hx, hb, hml, hown, hts⟩ (c_M_isIn l g _ ad _ (Int32.toInt64 a1) 0 100000 _) (cwS 3 hts (gd_S tw_426 tw_427 tw_28 tw_428) rfl rfl rfl (by decide +kernel) ⟨Nat.le_of_ble_eq_true rfl, Nat.le_of_ble_eq_true rfl⟩) (wp_S hK hN hP hJ) rfl rfl hl.1 rfl (lv_room (Nat.le_of_ble_eq_true rfl)) d_M_rain_7 ⟨Nat.zero_le _, Nat.zero_le _⟩) hS (fun H locs hP hS => ?_)
  rw [isIn_x (a := a1) (b := 0) (c := 100000) (by decide) (by decide)]
  refine lv_if_eq (tgt := 17) hx hb d_M_rain_10 (by decide) (fun c_1 => ?_) (fun c_1 => ?_)
  · skip
    refine lv_aload_n hx hb d_M_rain_17 rfl (lv_at hl 0 rfl) ?_
    refine wr_get hx hb hts in_M hown hK hP (0) (by omega) rfl rfl 11 (by decide) (hts _ tw_352) rfl d_M_rain_18 ?_
    refine wr_put (E' := mE g ad L x) hx hb hts in_M ty_M ty_M_ok n_M hown hK hP hJ hS (0) (by omega) rfl rfl 11 (by decide) (hts _ tw_352) rfl rfl rfl (Nat.le_of_ble_eq_true rfl) ⟨rfl, fun _ _ => rfl⟩ d_M_rain_21 (fun H locs hP hS => ?_)
    refine lv_iload_n hx hb d_M_rain_24 rfl (lv_at hl 1 rfl) ?_
    refine lv_i2l hx hb d_M_rain_25 rfl ?_
    refine lv_lconst (v := 0) hx hb d_M_rain_26 (by decide) ?_
    refine lv_ldc2 (v := 100000) hx hb hown (hts _ tw_442) d_M_rain_27 ?_
    refine wc_i (va_runS (As := [.long (Int32.toInt64 a1), .long 0, .long 100000]) (rest := []) ⟨hx, hb, hml, hown, hts⟩ (c_M_isIn l g _ ad _ (Int32.toInt64 a1) 0 100000 _) (cwS 3 hts (gd_S tw_426 tw_427 tw_28 tw_428) rfl rfl rfl (by decide +kernel) ⟨Nat.le_of_ble_eq_true rfl, Nat.le_of_ble_eq_true rfl⟩) (wp_S hK hN hP hJ) rfl rfl hl.1 rfl (lv_room (Nat.le_of_ble_eq_true rfl)) d_M_rain_30 ⟨Nat.zero_le _, Nat.zero_le _⟩) hS (fun H locs hP hS => ?_)
    rw [isIn_x (a := a1) (b := 0) (c := 100000) (by decide) (by decide)]
    exact W.zret hx hb hr (nb_within _ _ _) (fun t ht hW => ⟨⟨_, (), rfl, by (try simp only [x_rain, if_pos c_1, ite_self]); first | done | rfl | assumption | exact x_within_1 (by assumption), by dsimp only; rw [ht]; (try simp only [x_rain, if_pos c_1, ite_self]); exact hP⟩, hS.F ht⟩) hS.2.2 d_M_rain_33
  · skip
    refine lv_iload_n hx hb d_M_rain_13 rfl (lv_at hl 1 rfl) ?_
    refine lv_goto (tgt := 21) hx hb d_M_rain_14 (by decide) ?_
    obtain ⟨x_2, ex_2⟩ : ∃ z9, z9 = xI' x 0 a1 := ⟨_, rfl⟩
    refine wr_put (E' := mE g ad L x_2) hx hb hts in_M ty_M ty_M_ok n_M hown hK hP hJ hS (0) (by omega) rfl rfl 11 (by decide) (hts _ tw_352) rfl rfl rfl (Nat.le_of_ble_eq_true rfl) (by rw [ex_2]; exact mU_rain g ad L x a1) d_M_rain_21 (fun H locs hP hS => ?_)
    refine lv_iload_n hx hb d_M_rain_24 rfl (lv_at hl 1 rfl) ?_
    refine lv_i2l hx hb d_M_rain_25 rfl ?_
    refine lv_lconst (v := 0) hx hb d_M_rain_26 (by decide) ?_
    refine lv_ldc2 (v := 100000) hx hb hown (hts _ tw_442) d_M_rain_27 ?_
    refine wc_i (va_runS (As := [.long (Int32.toInt64 a1), .long 0, .long 100000]) (rest := []) ⟨hx, hb, hml, hown, hts⟩ (c_M_isIn l g _ ad _ (Int32.toInt64 a1) 0 100000 _) (cwS 3 hts (gd_S tw_426 tw_427 tw_28 tw_428) rfl rfl rfl (by decide +kernel) ⟨Nat.le_of_ble_eq_true rfl, Nat.le_of_ble_eq_true rfl⟩) (wp_S hK hN hP hJ) rfl rfl hl.1 rfl (lv_room (Nat.le_of_ble_eq_true rfl)) d_M_rain_30 ⟨Nat.zero_le _, Nat.zero_le _⟩) hS (fun H locs hP hS => ?_)
    rw [isIn_x (a := a1) (b := 0) (c := 100000) (by decide) (by decide)]
    subst ex_2
    exact W.zret hx hb hr (nb_within _ _ _) (fun t ht hW => ⟨⟨_, (), rfl, by (try simp only [x_rain, if_neg c_1, ite_self]); first | done | rfl | assumption | exact x_within_1 (by assumption), by dsimp only; rw [ht]; (try simp only [x_rain, if_neg c_1, ite_self]); exact hP⟩, hS.F ht⟩) hS.2.2 d_M_rain_33
set_option maxHeartbeats 4000000 in
set_option maxRecDepth 100000 in
theorem c_M_loss (l : Launch) (g : wG) (ad : Nat → Nat) {L : Nat} (hL : 1 ≤ L ∧ L ≤ 6) (x : xS) (a1 : Int32) : CtI l y_M_loss ws_M_loss ({ frames := 1, cells := 0, slots := 0, locals := 25 }) g 14 ad (mE g ad L x) (mE g ad L (x_loss x a1).2) [.ref (ad 0), .int a1] (x_loss x a1).1 := by
  intro sz
  refine Met.ofW (cc := b_M_loss) (maxL := 2) (ret := (some .boolean)) (by decide +kernel) rfl ?_
  intro p e s m args below meth c s₁ B hml hv
  obtain ⟨rfl, hsz, hP, hK, hN, hJ⟩ := hv
  have hx := B.exec
  have hb := B.bytes
  have hr := B.returns
  have hts0 := atoms_spec (ws := ws_M_loss) B.pre
  have hts : ∀ w ∈ tb, w.before _ s = true := fun w h => hts0 w (List.mem_cons_of_mem _ h)
  have hown : s.vm.findClass "HeapStepsModel" = some m.cls := findClass_of_methodNamed B.named
  have hlocks := B.notSynchronized
  subst hsz
  have hS : va_S (wA 14 ad s.heap.size) s.heap s.heap [] := va_S.rf
  have hl := lv_entry ([.ref (ad 0), .int a1]) (n := 2) (Nat.le_of_ble_eq_true rfl)
  rw [lg_entry_eq]
  generalize (lg_sl ([.ref (ad 0), .int a1]) ++ List.replicate (2 - (lg_sl ([.ref (ad 0), .int a1])).length) Slot.unset).toArray = ls at hl ⊢
  have hl : lv_has ls 2 [(0, .ref (ad 0)), (1, .int a1)] := hl
  refine lv_aload_n hx hb d_M_loss_0 rfl (lv_at hl 0 rfl) ?_
  refine lv_iload_n hx hb d_M_loss_1 rfl (lv_at hl 1 rfl) ?_
  refine lv_i2l hx hb d_M_loss_2 rfl ?_
  refine lv_lconst (v := 0) hx hb d_M_loss_3 (by decide) ?_
  refine lv_ldc2 (v := 1000000) hx hb hown (hts _ tw_425) d_M_loss_4 ?_
  refine wc_i (va_runS (As := [.long (Int32.toInt64 a1), .long 0, .long 1000000]) (rest := [.ref (ad 0)]) ⟨hx, hb, hml, hown, hts⟩ (c_M_isIn l g _ ad _ (Int32.toInt64 a1) 0 1000000 _) (cwS 3 hts (gd_S tw_426 tw_427 tw_28 tw_428) rfl rfl rfl (by decide +kernel) ⟨Nat.le_of_ble_eq_true rfl, Nat.le_of_ble_eq_true rfl⟩) (wp_S hK hN hP hJ) rfl rfl hl.1 rfl (lv_room (Nat.le_of_ble_eq_true rfl)) d_M_loss_7 ⟨Nat.zero_le _, Nat.zero_le _⟩) hS (fun H locs hP hS => ?_)
  rw [isIn_x (a := a1) (b := 0) (c := 1000000) (by decide) (by decide)]
  refine lv_if_eq (tgt := 17) hx hb d_M_loss_10 (by decide) (fun c_1 => ?_) (fun c_1 => ?_)
  · skip
    refine lv_aload_n hx hb d_M_loss_17 rfl (lv_at hl 0 rfl) ?_
    refine wr_get hx hb hts in_M hown hK hP (0) (by omega) rfl rfl 12 (by decide) (hts _ tw_353) rfl d_M_loss_18 ?_
    refine wr_put (E' := mE g ad L x) hx hb hts in_M ty_M ty_M_ok n_M hown hK hP hJ hS (0) (by omega) rfl rfl 12 (by decide) (hts _ tw_353) rfl rfl rfl (Nat.le_of_ble_eq_true rfl) ⟨rfl, fun _ _ => rfl⟩ d_M_loss_21 (fun H locs hP hS => ?_)
    refine lv_iload_n hx hb d_M_loss_24 rfl (lv_at hl 1 rfl) ?_
    refine lv_i2l hx hb d_M_loss_25 rfl ?_
    refine lv_lconst (v := 0) hx hb d_M_loss_26 (by decide) ?_
    refine lv_ldc2 (v := 1000000) hx hb hown (hts _ tw_425) d_M_loss_27 ?_
    refine wc_i (va_runS (As := [.long (Int32.toInt64 a1), .long 0, .long 1000000]) (rest := []) ⟨hx, hb, hml, hown, hts⟩ (c_M_isIn l g _ ad _ (Int32.toInt64 a1) 0 1000000 _) (cwS 3 hts (gd_S tw_426 tw_427 tw_28 tw_428) rfl rfl rfl (by decide +kernel) ⟨Nat.le_of_ble_eq_true rfl, Nat.le_of_ble_eq_true rfl⟩) (wp_S hK hN hP hJ) rfl rfl hl.1 rfl (lv_room (Nat.le_of_ble_eq_true rfl)) d_M_loss_30 ⟨Nat.zero_le _, Nat.zero_le _⟩) hS (fun H locs hP hS => ?_)
    rw [isIn_x (a := a1) (b := 0) (c := 1000000) (by decide) (by decide)]
    exact W.zret hx hb hr (nb_within _ _ _) (fun t ht hW => ⟨⟨_, (), rfl, by (try simp only [x_loss, if_pos c_1, ite_self]); first | done | rfl | assumption | exact x_within_1 (by assumption), by dsimp only; rw [ht]; (try simp only [x_loss, if_pos c_1, ite_self]); exact hP⟩, hS.F ht⟩) hS.2.2 d_M_loss_33
  · skip
    refine lv_iload_n hx hb d_M_loss_13 rfl (lv_at hl 1 rfl) ?_
    refine lv_goto (tgt := 21) hx hb d_M_loss_14 (by decide) ?_
    obtain ⟨x_2, ex_2⟩ : ∃ z9, z9 = xI' x 1 a1 := ⟨_, rfl⟩
    refine wr_put (E' := mE g ad L x_2) hx hb hts in_M ty_M ty_M_ok n_M hown hK hP hJ hS (0) (by omega) rfl rfl 12 (by decide) (hts _ tw_353) rfl rfl rfl (Nat.le_of_ble_eq_true rfl) (by rw [ex_2]; exact mU_loss g ad L x a1) d_M_loss_21 (fun H locs hP hS => ?_)
    refine lv_iload_n hx hb d_M_loss_24 rfl (lv_at hl 1 rfl) ?_
    refine lv_i2l hx hb d_M_loss_25 rfl ?_
    refine lv_lconst (v := 0) hx hb d_M_loss_26 (by decide) ?_
    refine lv_ldc2 (v := 1000000) hx hb hown (hts _ tw_425) d_M_loss_27 ?_
    refine wc_i (va_runS (As := [.long (Int32.toInt64 a1), .long 0, .long 1000000]) (rest := []) ⟨hx, hb, hml, hown, hts⟩ (c_M_isIn l g _ ad _ (Int32.toInt64 a1) 0 1000000 _) (cwS 3 hts (gd_S tw_426 tw_427 tw_28 tw_428) rfl rfl rfl (by decide +kernel) ⟨Nat.le_of_ble_eq_true rfl, Nat.le_of_ble_eq_true rfl⟩) (wp_S hK hN hP hJ) rfl rfl hl.1 rfl (lv_room (Nat.le_of_ble_eq_true rfl)) d_M_loss_30 ⟨Nat.zero_le _, Nat.zero_le _⟩) hS (fun H locs hP hS => ?_)
    rw [isIn_x (a := a1) (b := 0) (c := 1000000) (by decide) (by decide)]
    subst ex_2
    exact W.zret hx hb hr (nb_within _ _ _) (fun t ht hW => ⟨⟨_, (), rfl, by (try simp only [x_loss, if_neg c_1, ite_self]); first | done | rfl | assumption | exact x_within_1 (by assumption), by dsimp only; rw [ht]; (try simp only [x_loss, if_neg c_1, ite_self]); exact hP⟩, hS.F ht⟩) hS.2.2 d_M_loss_33
set_option maxHeartbeats 4000000 in
set_option maxRecDepth 100000 in
theorem c_M_limit (l : Launch) (g : wG) (ad : Nat → Nat) {L : Nat} (hL : 1 ≤ L ∧ L ≤ 6) (x : xS) (a1 : Int32) : CtI l y_M_limit ws_M_limit ({ frames := 1, cells := 0, slots := 0, locals := 25 }) g 14 ad (mE g ad L x) (mE g ad L (x_limit x a1).2) [.ref (ad 0), .int a1] (x_limit x a1).1 := by
  intro sz
  refine Met.ofW (cc := b_M_limit) (maxL := 2) (ret := (some .boolean)) (by decide +kernel) rfl ?_
  intro p e s m args below meth c s₁ B hml hv
  obtain ⟨rfl, hsz, hP, hK, hN, hJ⟩ := hv
  have hx := B.exec
  have hb := B.bytes
  have hr := B.returns
  have hts0 := atoms_spec (ws := ws_M_limit) B.pre
  have hts : ∀ w ∈ tb, w.before _ s = true := fun w h => hts0 w (List.mem_cons_of_mem _ h)
  have hown : s.vm.findClass "HeapStepsModel" = some m.cls := findClass_of_methodNamed B.named
  have hlocks := B.notSynchronized
  subst hsz
  have hS : va_S (wA 14 ad s.heap.size) s.heap s.heap [] := va_S.rf
  have hl := lv_entry ([.ref (ad 0), .int a1]) (n := 2) (Nat.le_of_ble_eq_true rfl)
  rw [lg_entry_eq]
  generalize (lg_sl ([.ref (ad 0), .int a1]) ++ List.replicate (2 - (lg_sl ([.ref (ad 0), .int a1])).length) Slot.unset).toArray = ls at hl ⊢
  have hl : lv_has ls 2 [(0, .ref (ad 0)), (1, .int a1)] := hl
  refine lv_aload_n hx hb d_M_limit_0 rfl (lv_at hl 0 rfl) ?_
  refine lv_iload_n hx hb d_M_limit_1 rfl (lv_at hl 1 rfl) ?_
  refine lv_i2l hx hb d_M_limit_2 rfl ?_
  refine lv_lconst (v := 0) hx hb d_M_limit_3 (by decide) ?_
  refine lv_ldc2 (v := 1000000000) hx hb hown (hts _ tw_340) d_M_limit_4 ?_
  refine wc_i (va_runS (As := [.long (Int32.toInt64 a1), .long 0, .long 1000000000]) (rest := [.ref (ad 0)]) ⟨hx, hb, hml, hown, hts⟩ (c_M_isIn l g _ ad _ (Int32.toInt64 a1) 0 1000000000 _) (cwS 3 hts (gd_S tw_426 tw_427 tw_28 tw_428) rfl rfl rfl (by decide +kernel) ⟨Nat.le_of_ble_eq_true rfl, Nat.le_of_ble_eq_true rfl⟩) (wp_S hK hN hP hJ) rfl rfl hl.1 rfl (lv_room (Nat.le_of_ble_eq_true rfl)) d_M_limit_7 ⟨Nat.zero_le _, Nat.zero_le _⟩) hS (fun H locs hP hS => ?_)
  rw [isIn_x (a := a1) (b := 0) (c := 1000000000) (by decide) (by decide)]
  refine lv_if_eq (tgt := 18) hx hb d_M_limit_10 (by decide) (fun c_1 => ?_) (fun c_1 => ?_)
  · skip
    refine lv_aload_n hx hb d_M_limit_18 rfl (lv_at hl 0 rfl) ?_
    refine wr_get hx hb hts in_M hown hK hP (0) (by omega) rfl rfl 19 (by decide) (hts _ tw_360) rfl d_M_limit_19 ?_
    refine wr_put (E' := mE g ad L x) hx hb hts in_M ty_M ty_M_ok n_M hown hK hP hJ hS (0) (by omega) rfl rfl 19 (by decide) (hts _ tw_360) rfl rfl rfl (Nat.le_of_ble_eq_true rfl) ⟨rfl, fun _ _ => rfl⟩ d_M_limit_22 (fun H locs hP hS => ?_)
    refine lv_iload_n hx hb d_M_limit_25 rfl (lv_at hl 1 rfl) ?_
    refine lv_i2l hx hb d_M_limit_26 rfl ?_
    refine lv_lconst (v := 0) hx hb d_M_limit_27 (by decide) ?_
    refine lv_ldc2 (v := 1000000000) hx hb hown (hts _ tw_340) d_M_limit_28 ?_
    refine wc_i (va_runS (As := [.long (Int32.toInt64 a1), .long 0, .long 1000000000]) (rest := []) ⟨hx, hb, hml, hown, hts⟩ (c_M_isIn l g _ ad _ (Int32.toInt64 a1) 0 1000000000 _) (cwS 3 hts (gd_S tw_426 tw_427 tw_28 tw_428) rfl rfl rfl (by decide +kernel) ⟨Nat.le_of_ble_eq_true rfl, Nat.le_of_ble_eq_true rfl⟩) (wp_S hK hN hP hJ) rfl rfl hl.1 rfl (lv_room (Nat.le_of_ble_eq_true rfl)) d_M_limit_31 ⟨Nat.zero_le _, Nat.zero_le _⟩) hS (fun H locs hP hS => ?_)
    rw [isIn_x (a := a1) (b := 0) (c := 1000000000) (by decide) (by decide)]
    exact W.zret hx hb hr (nb_within _ _ _) (fun t ht hW => ⟨⟨_, (), rfl, by (try simp only [x_limit, if_pos c_1, ite_self]); first | done | rfl | assumption | exact x_within_1 (by assumption), by dsimp only; rw [ht]; (try simp only [x_limit, if_pos c_1, ite_self]); exact hP⟩, hS.F ht⟩) hS.2.2 d_M_limit_34
  · skip
    refine lv_iload_n hx hb d_M_limit_13 rfl (lv_at hl 1 rfl) ?_
    refine lv_i2l hx hb d_M_limit_14 rfl ?_
    refine lv_goto (tgt := 22) hx hb d_M_limit_15 (by decide) ?_
    obtain ⟨x_2, ex_2⟩ : ∃ z9, z9 = xI' x 2 a1 := ⟨_, rfl⟩
    refine wr_put (E' := mE g ad L x_2) hx hb hts in_M ty_M ty_M_ok n_M hown hK hP hJ hS (0) (by omega) rfl rfl 19 (by decide) (hts _ tw_360) rfl rfl rfl (Nat.le_of_ble_eq_true rfl) (by rw [ex_2]; exact mU_limit g ad L x a1) d_M_limit_22 (fun H locs hP hS => ?_)
    refine lv_iload_n hx hb d_M_limit_25 rfl (lv_at hl 1 rfl) ?_
    refine lv_i2l hx hb d_M_limit_26 rfl ?_
    refine lv_lconst (v := 0) hx hb d_M_limit_27 (by decide) ?_
    refine lv_ldc2 (v := 1000000000) hx hb hown (hts _ tw_340) d_M_limit_28 ?_
    refine wc_i (va_runS (As := [.long (Int32.toInt64 a1), .long 0, .long 1000000000]) (rest := []) ⟨hx, hb, hml, hown, hts⟩ (c_M_isIn l g _ ad _ (Int32.toInt64 a1) 0 1000000000 _) (cwS 3 hts (gd_S tw_426 tw_427 tw_28 tw_428) rfl rfl rfl (by decide +kernel) ⟨Nat.le_of_ble_eq_true rfl, Nat.le_of_ble_eq_true rfl⟩) (wp_S hK hN hP hJ) rfl rfl hl.1 rfl (lv_room (Nat.le_of_ble_eq_true rfl)) d_M_limit_31 ⟨Nat.zero_le _, Nat.zero_le _⟩) hS (fun H locs hP hS => ?_)
    rw [isIn_x (a := a1) (b := 0) (c := 1000000000) (by decide) (by decide)]
    subst ex_2
    exact W.zret hx hb hr (nb_within _ _ _) (fun t ht hW => ⟨⟨_, (), rfl, by (try simp only [x_limit, if_neg c_1, ite_self]); first | done | rfl | assumption | exact x_within_1 (by assumption), by dsimp only; rw [ht]; (try simp only [x_limit, if_neg c_1, ite_self]); exact hP⟩, hS.F ht⟩) hS.2.2 d_M_limit_34
set_option maxHeartbeats 4000000 in
set_option maxRecDepth 100000 in
theorem c_M_fan (l : Launch) (g : wG) (ad : Nat → Nat) {L : Nat} (hL : 1 ≤ L ∧ L ≤ 6) (x : xS) (a1 a2 a3 : Int32) : CtI l y_M_fan ws_M_fan ({ frames := 1, cells := 0, slots := 0, locals := 25 }) g 14 ad (mE g ad L x) (mE g ad L (x_fan x a1 a2 a3).2) [.ref (ad 0), .int a1, .int a2, .int a3] (x_fan x a1 a2 a3).1 := by
  intro sz
  refine Met.ofW (cc := b_M_fan) (maxL := 4) (ret := (some .boolean)) (by decide +kernel) rfl ?_
  intro p e s m args below meth c s₁ B hml hv
  obtain ⟨rfl, hsz, hP, hK, hN, hJ⟩ := hv
  have hx := B.exec
  have hb := B.bytes
  have hr := B.returns
  have hts0 := atoms_spec (ws := ws_M_fan) B.pre
  have hts : ∀ w ∈ tb, w.before _ s = true := fun w h => hts0 w (List.mem_cons_of_mem _ h)
  have hown : s.vm.findClass "HeapStepsModel" = some m.cls := findClass_of_methodNamed B.named
  have hlocks := B.notSynchronized
  subst hsz
  have hS : va_S (wA 14 ad s.heap.size) s.heap s.heap [] := va_S.rf
  have hl := lv_entry ([.ref (ad 0), .int a1, .int a2, .int a3]) (n := 4) (Nat.le_of_ble_eq_true rfl)
  rw [lg_entry_eq]
  generalize (lg_sl ([.ref (ad 0), .int a1, .int a2, .int a3]) ++ List.replicate (4 - (lg_sl ([.ref (ad 0), .int a1, .int a2, .int a3])).length) Slot.unset).toArray = ls at hl ⊢
  have hl : lv_has ls 4 [(0, .ref (ad 0)), (1, .int a1), (2, .int a2), (3, .int a3)] := hl
  refine lv_iload_n hx hb d_M_fan_0 rfl (lv_at hl 1 rfl) ?_
  refine lv_i2l hx hb d_M_fan_1 rfl ?_
  refine lv_lconst (v := 0) hx hb d_M_fan_2 (by decide) ?_
  refine lv_ldc2 (v := 1000000) hx hb hown (hts _ tw_425) d_M_fan_3 ?_
  refine wc_i (va_runS (As := [.long (Int32.toInt64 a1), .long 0, .long 1000000]) (rest := []) ⟨hx, hb, hml, hown, hts⟩ (c_M_isIn l g _ ad _ (Int32.toInt64 a1) 0 1000000 _) (cwS 3 hts (gd_S tw_426 tw_427 tw_28 tw_428) rfl rfl rfl (by decide +kernel) ⟨Nat.le_of_ble_eq_true rfl, Nat.le_of_ble_eq_true rfl⟩) (wp_S hK hN hP hJ) rfl rfl hl.1 rfl (lv_room (Nat.le_of_ble_eq_true rfl)) d_M_fan_6 ⟨Nat.zero_le _, Nat.zero_le _⟩) hS (fun H locs hP hS => ?_)
  rw [isIn_x (a := a1) (b := 0) (c := 1000000) (by decide) (by decide)]
  refine lv_if_eq (tgt := 40) hx hb d_M_fan_9 (by decide) (fun c_1 => ?_) (fun c_1 => ?_)
  · skip
    refine lv_iconst (v := 0) hx hb d_M_fan_40 (by decide) ?_
    exact W.zret hx hb hr rfl (fun t ht hW => ⟨⟨_, (), rfl, by (try simp only [x_fan, x_tell, if_pos c_1, ite_self]); first | done | rfl | assumption | exact x_within_1 (by assumption), by dsimp only; rw [ht]; (try simp only [x_fan, x_tell, if_pos c_1, ite_self]); exact hP⟩, hS.F ht⟩) hS.2.2 d_M_fan_41
  · skip
    refine lv_iload_n hx hb d_M_fan_12 rfl (lv_at hl 2 rfl) ?_
    refine lv_i2l hx hb d_M_fan_13 rfl ?_
    refine lv_ldc2 (v := -1000) hx hb hown (hts _ tw_464) d_M_fan_14 ?_
    refine lv_ldc2 (v := 1000) hx hb hown (hts _ tw_447) d_M_fan_17 ?_
    refine wc_i (va_runS (As := [.long (Int32.toInt64 a2), .long (-1000), .long 1000]) (rest := []) ⟨hx, hb, hml, hown, hts⟩ (c_M_isIn l g _ ad _ (Int32.toInt64 a2) (-1000) 1000 _) (cwS 3 hts (gd_S tw_426 tw_427 tw_28 tw_428) rfl rfl rfl (by decide +kernel) ⟨Nat.le_of_ble_eq_true rfl, Nat.le_of_ble_eq_true rfl⟩) (wp_S hK hN hP hJ) rfl rfl hl.1 rfl (lv_room (Nat.le_of_ble_eq_true rfl)) d_M_fan_20 ⟨Nat.zero_le _, Nat.zero_le _⟩) hS (fun H locs hP hS => ?_)
    rw [isIn_x (a := a2) (b := -1000) (c := 1000) (by decide) (by decide)]
    refine lv_if_eq (tgt := 40) hx hb d_M_fan_23 (by decide) (fun c_2 => ?_) (fun c_2 => ?_)
    · skip
      refine lv_iconst (v := 0) hx hb d_M_fan_40 (by decide) ?_
      exact W.zret hx hb hr rfl (fun t ht hW => ⟨⟨_, (), rfl, by (try simp only [x_fan, x_tell, if_neg c_1, if_pos c_2, ite_self]); first | done | rfl | assumption | exact x_within_1 (by assumption), by dsimp only; rw [ht]; (try simp only [x_fan, x_tell, if_neg c_1, if_pos c_2, ite_self]); exact hP⟩, hS.F ht⟩) hS.2.2 d_M_fan_41
    · skip
      refine lv_iload_n hx hb d_M_fan_26 rfl (lv_at hl 3 rfl) ?_
      refine lv_i2l hx hb d_M_fan_27 rfl ?_
      refine lv_ldc2 (v := -1000) hx hb hown (hts _ tw_464) d_M_fan_28 ?_
      refine lv_ldc2 (v := 1000) hx hb hown (hts _ tw_447) d_M_fan_31 ?_
      refine wc_i (va_runS (As := [.long (Int32.toInt64 a3), .long (-1000), .long 1000]) (rest := []) ⟨hx, hb, hml, hown, hts⟩ (c_M_isIn l g _ ad _ (Int32.toInt64 a3) (-1000) 1000 _) (cwS 3 hts (gd_S tw_426 tw_427 tw_28 tw_428) rfl rfl rfl (by decide +kernel) ⟨Nat.le_of_ble_eq_true rfl, Nat.le_of_ble_eq_true rfl⟩) (wp_S hK hN hP hJ) rfl rfl hl.1 rfl (lv_room (Nat.le_of_ble_eq_true rfl)) d_M_fan_34 ⟨Nat.zero_le _, Nat.zero_le _⟩) hS (fun H locs hP hS => ?_)
      rw [isIn_x (a := a3) (b := -1000) (c := 1000) (by decide) (by decide)]
      refine lv_if_ne (tgt := 42) hx hb d_M_fan_37 (by decide) (fun c_3 => ?_) (fun c_3 => ?_)
      · skip
        refine lv_aload_n hx hb d_M_fan_42 rfl (lv_at hl 0 rfl) ?_
        refine lv_iconst (v := 1) hx hb d_M_fan_43 (by decide) ?_
        obtain ⟨x_4, ex_4⟩ : ∃ z9, z9 = xI' x 4 1 := ⟨_, rfl⟩
        refine wr_put (E' := mE g ad L x_4) hx hb hts in_M ty_M ty_M_ok n_M hown hK hP hJ hS (0) (by omega) rfl rfl 13 (by decide) (hts _ tw_354) rfl rfl rfl (Nat.le_of_ble_eq_true rfl) (by rw [ex_4]; exact mU_hasFan g ad L x 1) d_M_fan_44 (fun H locs hP hS => ?_)
        refine lv_aload_n hx hb d_M_fan_47 rfl (lv_at hl 0 rfl) ?_
        refine lv_iload_n hx hb d_M_fan_48 rfl (lv_at hl 1 rfl) ?_
        obtain ⟨x_5, ex_5⟩ : ∃ z9, z9 = xI' x_4 5 a1 := ⟨_, rfl⟩
        refine wr_put (E' := mE g ad L x_5) hx hb hts in_M ty_M ty_M_ok n_M hown hK hP hJ hS (0) (by omega) rfl rfl 14 (by decide) (hts _ tw_355) rfl rfl rfl (Nat.le_of_ble_eq_true rfl) (by rw [ex_5]; exact mU_target g ad L x_4 a1) d_M_fan_49 (fun H locs hP hS => ?_)
        refine lv_aload_n hx hb d_M_fan_52 rfl (lv_at hl 0 rfl) ?_
        refine lv_iload_n hx hb d_M_fan_53 rfl (lv_at hl 2 rfl) ?_
        obtain ⟨x_6, ex_6⟩ : ∃ z9, z9 = xI' x_5 6 a2 := ⟨_, rfl⟩
        refine wr_put (E' := mE g ad L x_6) hx hb hts in_M ty_M ty_M_ok n_M hown hK hP hJ hS (0) (by omega) rfl rfl 15 (by decide) (hts _ tw_356) rfl rfl rfl (Nat.le_of_ble_eq_true rfl) (by rw [ex_6]; exact mU_byNow g ad L x_5 a2) d_M_fan_54 (fun H locs hP hS => ?_)
        refine lv_aload_n hx hb d_M_fan_57 rfl (lv_at hl 0 rfl) ?_
        refine lv_iload_n hx hb d_M_fan_58 rfl (lv_at hl 3 rfl) ?_
        obtain ⟨x_7, ex_7⟩ : ∃ z9, z9 = xI' x_6 7 a3 := ⟨_, rfl⟩
        refine wr_put (E' := mE g ad L x_7) hx hb hts in_M ty_M ty_M_ok n_M hown hK hP hJ hS (0) (by omega) rfl rfl 16 (by decide) (hts _ tw_357) rfl rfl rfl (Nat.le_of_ble_eq_true rfl) (by rw [ex_7]; exact mU_bySum g ad L x_6 a3) d_M_fan_59 (fun H locs hP hS => ?_)
        refine lv_aload_n hx hb d_M_fan_62 rfl (lv_at hl 0 rfl) ?_
        refine lv_lconst (v := 0) hx hb d_M_fan_63 (by decide) ?_
        obtain ⟨x_8, ex_8⟩ : ∃ z9, z9 = xF' x_7 0 := ⟨_, rfl⟩
        refine wr_put (E' := mE g ad L x_8) hx hb hts in_M ty_M ty_M_ok n_M hown hK hP hJ hS (0) (by omega) rfl rfl 17 (by decide) (hts _ tw_358) rfl rfl rfl (Nat.le_of_ble_eq_true rfl) (by rw [ex_8]; exact mU_sum g ad L x_7 0) d_M_fan_64 (fun H locs hP hS => ?_)
        refine lv_iconst (v := 1) hx hb d_M_fan_67 (by decide) ?_
        subst ex_4
        subst ex_5
        subst ex_6
        subst ex_7
        subst ex_8
        exact W.zret hx hb hr rfl (fun t ht hW => ⟨⟨_, (), rfl, by (try simp only [x_fan, x_tell, if_neg c_1, if_neg c_2, if_neg c_3, ite_self]); first | done | rfl | assumption | exact x_within_1 (by assumption), by dsimp only; rw [ht]; (try simp only [x_fan, x_tell, if_neg c_1, if_neg c_2, if_neg c_3, ite_self]); exact hP⟩, hS.F ht⟩) hS.2.2 d_M_fan_68
      · skip
        refine lv_iconst (v := 0) hx hb d_M_fan_40 (by decide) ?_
        exact W.zret hx hb hr rfl (fun t ht hW => ⟨⟨_, (), rfl, by (try simp only [x_fan, x_tell, if_neg c_1, if_neg c_2, if_pos c_3, ite_self]); first | done | rfl | assumption | exact x_within_1 (by assumption), by dsimp only; rw [ht]; (try simp only [x_fan, x_tell, if_neg c_1, if_neg c_2, if_pos c_3, ite_self]); exact hP⟩, hS.F ht⟩) hS.2.2 d_M_fan_41
end
section
set_option maxHeartbeats 4000000 in
set_option maxRecDepth 100000 in
theorem c_M_rate (l : Launch) (g : wG) (ad : Nat → Nat) {L : Nat} (hL : 1 ≤ L ∧ L ≤ 6) (x : xS) (hrow : x_rows x) (a1 a2 a3 : Int32) : CtI l y_M_rate ws_M_rate ({ frames := 1, cells := 0, slots := 0, locals := 25 }) g 14 ad (mE g ad L x) (mE g ad L (x_rate x a1 a2 a3).2) [.ref (ad 0), .int a1, .int a2, .int a3] (x_rate x a1 a2 a3).1 := by
  intro sz
  refine Met.ofW (cc := b_M_rate) (maxL := 5) (ret := (some .boolean)) (by decide +kernel) rfl ?_
  intro p e s m args below meth c s₁ B hml hv
  obtain ⟨rfl, hsz, hP, hK, hN, hJ⟩ := hv
  have hx := B.exec
  have hb := B.bytes
  have hr := B.returns
  have hts0 := atoms_spec (ws := ws_M_rate) B.pre
  have hts : ∀ w ∈ tb, w.before _ s = true := fun w h => hts0 w (List.mem_cons_of_mem _ h)
  have hown : s.vm.findClass "HeapStepsModel" = some m.cls := findClass_of_methodNamed B.named
  have hlocks := B.notSynchronized
  subst hsz
  have hS : va_S (wA 14 ad s.heap.size) s.heap s.heap [] := va_S.rf
  have hl := lv_entry ([.ref (ad 0), .int a1, .int a2, .int a3]) (n := 5) (Nat.le_of_ble_eq_true rfl)
  rw [lg_entry_eq]
  generalize (lg_sl ([.ref (ad 0), .int a1, .int a2, .int a3]) ++ List.replicate (5 - (lg_sl ([.ref (ad 0), .int a1, .int a2, .int a3])).length) Slot.unset).toArray = ls at hl ⊢
  have hl : lv_has ls 5 [(0, .ref (ad 0)), (1, .int a1), (2, .int a2), (3, .int a3)] := hl
  refine lv_iload_n hx hb d_M_rate_0 rfl (lv_at hl 1 rfl) ?_
  refine wc_i (va_runS (As := [.int a1]) (rest := []) ⟨hx, hb, hml, hown, hts⟩ (c_M_isPart l g _ ad _ a1 _) (cwS 1 hts (gd_S tw_422 tw_423 tw_28 tw_424) rfl rfl rfl (by decide +kernel) ⟨Nat.le_of_ble_eq_true rfl, Nat.le_of_ble_eq_true rfl⟩) (wp_S hK hN hP hJ) rfl rfl hl.1 rfl (lv_room (Nat.le_of_ble_eq_true rfl)) d_M_rate_1 ⟨Nat.zero_le _, Nat.zero_le _⟩) hS (fun H locs hP hS => ?_)
  rw [isPart_x a1]
  refine lv_if_eq (tgt := 41) hx hb d_M_rate_4 (by decide) (fun c_1 => ?_) (fun c_1 => ?_)
  · skip
    refine lv_iconst (v := 0) hx hb d_M_rate_41 (by decide) ?_
    exact W.zret hx hb hr rfl (fun t ht hW => ⟨⟨_, (), rfl, by (try simp only [x_rate, x_addRow, if_pos c_1, ite_self]); first | done | rfl | assumption | exact x_within_1 (by assumption), by dsimp only; rw [ht]; (try simp only [x_rate, x_addRow, if_pos c_1, ite_self]); exact hP⟩, hS.F ht⟩) hS.2.2 d_M_rate_42
  · skip
    obtain ⟨k, hk, rfl⟩ := x_within_nat (n := 2) (by decide) c_1
    obtain ⟨r, hr4, hre⟩ := hrow k (by omega)
    have hrc : (xY x k 0).toNatClampNeg = r := by rw [hre]; exact nI_clamp (by omega)
    refine lv_aload_n hx hb d_M_rate_7 rfl (lv_at hl 0 rfl) ?_
    refine wr_get hx hb hts in_M hown hK hP (0) (by omega) rfl rfl 6 (by decide) (hts _ tw_347) rfl d_M_rate_8 ?_
    refine lv_iload_n hx hb d_M_rate_11 rfl (lv_at hl 1 rfl) ?_
    refine wr_ialdv (v := xY x k 0) hx hb hK hP (6) 1 (by omega) rfl rfl k rfl (by omega) (by omega) rfl d_M_rate_12 ?_
    refine lv_iconst (v := 4) hx hb d_M_rate_13 (by decide) ?_
    refine lv_icmp_eq (tgt := 41) hx hb d_M_rate_14 (by decide) (fun c_2 => ?_) (fun c_2 => ?_)
    · skip
      refine lv_iconst (v := 0) hx hb d_M_rate_41 (by decide) ?_
      exact W.zret hx hb hr rfl (fun t ht hW => ⟨⟨_, (), rfl, by (try simp only [x_rate, x_addRow, if_neg c_1, if_pos c_2, if_pos (show (4 : Int32) ≤ xY x k 0 by rw [c_2]; decide), hrc, nI_clamp (show k < 2 ^ 31 by omega), ite_self]); first | done | rfl | assumption | exact x_within_1 (by assumption), by dsimp only; rw [ht]; (try simp only [x_rate, x_addRow, if_neg c_1, if_pos c_2, if_pos (show (4 : Int32) ≤ xY x k 0 by rw [c_2]; decide), hrc, nI_clamp (show k < 2 ^ 31 by omega), ite_self]); exact hP⟩, hS.F ht⟩) hS.2.2 d_M_rate_42
    · skip
      refine lv_iload_n hx hb d_M_rate_17 rfl (lv_at hl 2 rfl) ?_
      refine lv_i2l hx hb d_M_rate_18 rfl ?_
      refine lv_lconst (v := 0) hx hb d_M_rate_19 (by decide) ?_
      refine lv_ldc2 (v := 1000000) hx hb hown (hts _ tw_425) d_M_rate_20 ?_
      refine wc_i (va_runS (As := [.long (Int32.toInt64 a2), .long 0, .long 1000000]) (rest := []) ⟨hx, hb, hml, hown, hts⟩ (c_M_isIn l g _ ad _ (Int32.toInt64 a2) 0 1000000 _) (cwS 3 hts (gd_S tw_426 tw_427 tw_28 tw_428) rfl rfl rfl (by decide +kernel) ⟨Nat.le_of_ble_eq_true rfl, Nat.le_of_ble_eq_true rfl⟩) (wp_S hK hN hP hJ) rfl rfl hl.1 rfl (lv_room (Nat.le_of_ble_eq_true rfl)) d_M_rate_23 ⟨Nat.zero_le _, Nat.zero_le _⟩) hS (fun H locs hP hS => ?_)
      rw [isIn_x (a := a2) (b := 0) (c := 1000000) (by decide) (by decide)]
      refine lv_if_eq (tgt := 41) hx hb d_M_rate_26 (by decide) (fun c_3 => ?_) (fun c_3 => ?_)
      · skip
        refine lv_iconst (v := 0) hx hb d_M_rate_41 (by decide) ?_
        exact W.zret hx hb hr rfl (fun t ht hW => ⟨⟨_, (), rfl, by (try simp only [x_rate, x_addRow, if_neg c_1, if_neg c_2, if_pos c_3, if_neg (rate_n4 hr4 hre c_2), hrc, nI_clamp (show k < 2 ^ 31 by omega), ite_self]); first | done | rfl | assumption | exact x_within_1 (by assumption), by dsimp only; rw [ht]; (try simp only [x_rate, x_addRow, if_neg c_1, if_neg c_2, if_pos c_3, if_neg (rate_n4 hr4 hre c_2), hrc, nI_clamp (show k < 2 ^ 31 by omega), ite_self]); exact hP⟩, hS.F ht⟩) hS.2.2 d_M_rate_42
      · skip
        refine lv_iload_n hx hb d_M_rate_29 rfl (lv_at hl 3 rfl) ?_
        refine lv_i2l hx hb d_M_rate_30 rfl ?_
        refine lv_lconst (v := 0) hx hb d_M_rate_31 (by decide) ?_
        refine lv_ldc2 (v := 100000) hx hb hown (hts _ tw_442) d_M_rate_32 ?_
        refine wc_i (va_runS (As := [.long (Int32.toInt64 a3), .long 0, .long 100000]) (rest := []) ⟨hx, hb, hml, hown, hts⟩ (c_M_isIn l g _ ad _ (Int32.toInt64 a3) 0 100000 _) (cwS 3 hts (gd_S tw_426 tw_427 tw_28 tw_428) rfl rfl rfl (by decide +kernel) ⟨Nat.le_of_ble_eq_true rfl, Nat.le_of_ble_eq_true rfl⟩) (wp_S hK hN hP hJ) rfl rfl hl.1 rfl (lv_room (Nat.le_of_ble_eq_true rfl)) d_M_rate_35 ⟨Nat.zero_le _, Nat.zero_le _⟩) hS (fun H locs hP hS => ?_)
        rw [isIn_x (a := a3) (b := 0) (c := 100000) (by decide) (by decide)]
        refine lv_if_ne (tgt := 43) hx hb d_M_rate_38 (by decide) (fun c_4 => ?_) (fun c_4 => ?_)
        · skip
          refine lv_iconst (v := 4) hx hb d_M_rate_43 (by decide) ?_
          refine lv_iload_n hx hb d_M_rate_44 rfl (lv_at hl 1 rfl) ?_
          refine lv_imul hx hb d_M_rate_45 ?_
          refine lv_aload_n hx hb d_M_rate_46 rfl (lv_at hl 0 rfl) ?_
          refine wr_get hx hb hts in_M hown hK hP (0) (by omega) rfl rfl 6 (by decide) (hts _ tw_347) rfl d_M_rate_47 ?_
          refine lv_iload_n hx hb d_M_rate_50 rfl (lv_at hl 1 rfl) ?_
          refine wr_ialdv (v := xY x k 0) hx hb hK hP (6) 1 (by omega) rfl rfl k rfl (by omega) (by omega) rfl d_M_rate_51 ?_
          rw [hre]
          refine lv_iadd hx hb d_M_rate_52 ?_
          rw [mI4]
          refine lv_istore (lv' := [(4, .int (nI (4 * k + r))), (0, .ref (ad 0)), (1, .int (nI k)), (2, .int a2), (3, .int a3)]) hx hb d_M_rate_53 hl (by decide) rfl (fun ls hl => ?_)
          refine lv_aload_n hx hb d_M_rate_55 rfl (lv_at hl 1 rfl) ?_
          refine wr_get hx hb hts in_M hown hK hP (0) (by omega) rfl rfl 6 (by decide) (hts _ tw_347) rfl d_M_rate_56 ?_
          refine lv_iload_n hx hb d_M_rate_59 rfl (lv_at hl 2 rfl) ?_
          refine wr_ialdv (v := xY x k 0) hx hb hK hP (6) 1 (by omega) rfl rfl k rfl (by omega) (by omega) rfl d_M_rate_60 ?_
          refine lv_if_le (tgt := 79) hx hb d_M_rate_61 (by decide) (fun c_5 => ?_) (fun c_5 => ?_)
          · skip
            have hr5 : r < 4 := by
              rcases Nat.lt_or_ge r 4 with q | q
              · exact q
              · exact absurd (by rw [hre, show r = 4 by omega]; rfl) c_2
            refine lv_aload_n hx hb d_M_rate_79 rfl (lv_at hl 1 rfl) ?_
            refine wr_get hx hb hts in_M hown hK hP (0) (by omega) rfl rfl 7 (by decide) (hts _ tw_348) rfl d_M_rate_80 ?_
            refine lv_iload hx hb d_M_rate_83 (lv_at hl 0 rfl) ?_
            refine lv_iload_n hx hb d_M_rate_85 rfl (lv_at hl 3 rfl) ?_
            obtain ⟨x_6, ex_6⟩ : ∃ z9, z9 = xR' x k 0 r a2 := ⟨_, rfl⟩
            refine wr_iast (E' := mE g ad L x_6) hx hb hK hP hJ hS (7) 1 (by omega) rfl rfl (4 * k + r) rfl (by omega) (by omega) (by rw [ex_6]; exact mU_RW g ad L x (p := k) (r := r) (by omega) a2) d_M_rate_86 (fun H locs hP hS => ?_)
            refine lv_aload_n hx hb d_M_rate_87 rfl (lv_at hl 1 rfl) ?_
            refine wr_get hx hb hts in_M hown hK hP (0) (by omega) rfl rfl 8 (by decide) (hts _ tw_349) rfl d_M_rate_88 ?_
            refine lv_iload hx hb d_M_rate_91 (lv_at hl 0 rfl) ?_
            refine lv_iload_n hx hb d_M_rate_93 rfl (lv_at hl 4 rfl) ?_
            obtain ⟨x_7, ex_7⟩ : ∃ z9, z9 = xR' x_6 k 1 r a3 := ⟨_, rfl⟩
            refine wr_iast (E' := mE g ad L x_7) hx hb hK hP hJ hS (8) 1 (by omega) rfl rfl (4 * k + r) rfl (by omega) (by omega) (by rw [ex_7]; exact mU_RR g ad L x_6 (p := k) (r := r) (by omega) a3) d_M_rate_94 (fun H locs hP hS => ?_)
            refine lv_aload_n hx hb d_M_rate_95 rfl (lv_at hl 1 rfl) ?_
            refine wr_get hx hb hts in_M hown hK hP (0) (by omega) rfl rfl 6 (by decide) (hts _ tw_347) rfl d_M_rate_96 ?_
            refine lv_iload_n hx hb d_M_rate_99 rfl (lv_at hl 2 rfl) ?_
            refine lv_dup2_11 hx hb d_M_rate_100 rfl rfl ?_
            refine wr_ialdv (v := xY x_7 k 0) hx hb hK hP (6) 1 (by omega) rfl rfl k rfl (by omega) (by omega) rfl d_M_rate_101 ?_
            refine lv_iconst (v := 1) hx hb d_M_rate_102 (by decide) ?_
            refine lv_iadd hx hb d_M_rate_103 ?_
            obtain ⟨x_8, ex_8⟩ : ∃ z9, z9 = xY' x_7 k 0 ((xY x_7 k 0) + 1) := ⟨_, rfl⟩
            refine wr_iast (E' := mE g ad L x_8) hx hb hK hP hJ hS (6) 1 (by omega) rfl rfl k rfl (by omega) (by omega) (by rw [ex_8]; exact mU_RC g ad L x_7 k ((xY x_7 k 0) + 1)) d_M_rate_104 (fun H locs hP hS => ?_)
            refine lv_iconst (v := 1) hx hb d_M_rate_105 (by decide) ?_
            subst ex_6
            subst ex_7
            subst ex_8
            exact W.zret hx hb hr rfl (fun t ht hW => ⟨⟨_, (), rfl, by (try simp only [x_rate, x_addRow, if_neg c_1, if_neg c_2, if_neg c_3, if_neg c_4, if_pos c_5, if_neg (rate_n4 hr4 hre c_2), hrc, nI_clamp (show k < 2 ^ 31 by omega), ite_self]); first | done | rfl | assumption | exact x_within_1 (by assumption), by dsimp only; rw [ht]; (try simp only [x_rate, x_addRow, if_neg c_1, if_neg c_2, if_neg c_3, if_neg c_4, if_pos c_5, if_neg (rate_n4 hr4 hre c_2), hrc, nI_clamp (show k < 2 ^ 31 by omega), ite_self]); exact hP⟩, hS.F ht⟩) hS.2.2 d_M_rate_106
          · skip
            refine lv_iload_n hx hb d_M_rate_64 rfl (lv_at hl 3 rfl) ?_
            refine lv_aload_n hx hb d_M_rate_65 rfl (lv_at hl 1 rfl) ?_
            refine wr_get hx hb hts in_M hown hK hP (0) (by omega) rfl rfl 7 (by decide) (hts _ tw_348) rfl d_M_rate_66 ?_
            refine lv_iload hx hb d_M_rate_69 (lv_at hl 0 rfl) ?_
            refine lv_iconst (v := 1) hx hb d_M_rate_71 (by decide) ?_
            refine lv_isub hx hb d_M_rate_72 ?_
            have hd1 := (nI_dec hr4 (by rw [← hre]; exact c_5)).2
            rw [m4dec hd1]
            refine wr_ialdv (v := xR x k 0 (r - 1)) hx hb hK hP (7) 1 (by omega) rfl rfl (4 * k + (r - 1)) rfl (by omega) (by omega) (mRW x k (r - 1) 0 (by omega)) d_M_rate_73 ?_
            refine lv_icmp_gt (tgt := 79) hx hb d_M_rate_74 (by decide) (fun c_9 => ?_) (fun c_9 => ?_)
            · skip
              have hr5 : r < 4 := by
                rcases Nat.lt_or_ge r 4 with q | q
                · exact q
                · exact absurd (by rw [hre, show r = 4 by omega]; rfl) c_2
              refine lv_aload_n hx hb d_M_rate_79 rfl (lv_at hl 1 rfl) ?_
              refine wr_get hx hb hts in_M hown hK hP (0) (by omega) rfl rfl 7 (by decide) (hts _ tw_348) rfl d_M_rate_80 ?_
              refine lv_iload hx hb d_M_rate_83 (lv_at hl 0 rfl) ?_
              refine lv_iload_n hx hb d_M_rate_85 rfl (lv_at hl 3 rfl) ?_
              obtain ⟨x_10, ex_10⟩ : ∃ z9, z9 = xR' x k 0 r a2 := ⟨_, rfl⟩
              refine wr_iast (E' := mE g ad L x_10) hx hb hK hP hJ hS (7) 1 (by omega) rfl rfl (4 * k + r) rfl (by omega) (by omega) (by rw [ex_10]; exact mU_RW g ad L x (p := k) (r := r) (by omega) a2) d_M_rate_86 (fun H locs hP hS => ?_)
              refine lv_aload_n hx hb d_M_rate_87 rfl (lv_at hl 1 rfl) ?_
              refine wr_get hx hb hts in_M hown hK hP (0) (by omega) rfl rfl 8 (by decide) (hts _ tw_349) rfl d_M_rate_88 ?_
              refine lv_iload hx hb d_M_rate_91 (lv_at hl 0 rfl) ?_
              refine lv_iload_n hx hb d_M_rate_93 rfl (lv_at hl 4 rfl) ?_
              obtain ⟨x_11, ex_11⟩ : ∃ z9, z9 = xR' x_10 k 1 r a3 := ⟨_, rfl⟩
              refine wr_iast (E' := mE g ad L x_11) hx hb hK hP hJ hS (8) 1 (by omega) rfl rfl (4 * k + r) rfl (by omega) (by omega) (by rw [ex_11]; exact mU_RR g ad L x_10 (p := k) (r := r) (by omega) a3) d_M_rate_94 (fun H locs hP hS => ?_)
              refine lv_aload_n hx hb d_M_rate_95 rfl (lv_at hl 1 rfl) ?_
              refine wr_get hx hb hts in_M hown hK hP (0) (by omega) rfl rfl 6 (by decide) (hts _ tw_347) rfl d_M_rate_96 ?_
              refine lv_iload_n hx hb d_M_rate_99 rfl (lv_at hl 2 rfl) ?_
              refine lv_dup2_11 hx hb d_M_rate_100 rfl rfl ?_
              refine wr_ialdv (v := xY x_11 k 0) hx hb hK hP (6) 1 (by omega) rfl rfl k rfl (by omega) (by omega) rfl d_M_rate_101 ?_
              refine lv_iconst (v := 1) hx hb d_M_rate_102 (by decide) ?_
              refine lv_iadd hx hb d_M_rate_103 ?_
              obtain ⟨x_12, ex_12⟩ : ∃ z9, z9 = xY' x_11 k 0 ((xY x_11 k 0) + 1) := ⟨_, rfl⟩
              refine wr_iast (E' := mE g ad L x_12) hx hb hK hP hJ hS (6) 1 (by omega) rfl rfl k rfl (by omega) (by omega) (by rw [ex_12]; exact mU_RC g ad L x_11 k ((xY x_11 k 0) + 1)) d_M_rate_104 (fun H locs hP hS => ?_)
              refine lv_iconst (v := 1) hx hb d_M_rate_105 (by decide) ?_
              subst ex_10
              subst ex_11
              subst ex_12
              exact W.zret hx hb hr rfl (fun t ht hW => ⟨⟨_, (), rfl, by (try simp only [x_rate, x_addRow, if_neg c_1, if_neg c_2, if_neg c_3, if_neg c_4, if_neg c_5, if_pos c_9, if_neg (rate_n4 hr4 hre c_2), hrc, nI_clamp (show k < 2 ^ 31 by omega), ite_self]); first | done | rfl | assumption | exact x_within_1 (by assumption), by dsimp only; rw [ht]; (try simp only [x_rate, x_addRow, if_neg c_1, if_neg c_2, if_neg c_3, if_neg c_4, if_neg c_5, if_pos c_9, if_neg (rate_n4 hr4 hre c_2), hrc, nI_clamp (show k < 2 ^ 31 by omega), ite_self]); exact hP⟩, hS.F ht⟩) hS.2.2 d_M_rate_106
            · skip
              refine lv_iconst (v := 0) hx hb d_M_rate_77 (by decide) ?_
              exact W.zret hx hb hr rfl (fun t ht hW => ⟨⟨_, (), rfl, by (try simp only [x_rate, x_addRow, if_neg c_1, if_neg c_2, if_neg c_3, if_neg c_4, if_neg c_5, if_neg c_9, if_neg (rate_n4 hr4 hre c_2), hrc, nI_clamp (show k < 2 ^ 31 by omega), ite_self]); first | done | rfl | assumption | exact x_within_1 (by assumption), by dsimp only; rw [ht]; (try simp only [x_rate, x_addRow, if_neg c_1, if_neg c_2, if_neg c_3, if_neg c_4, if_neg c_5, if_neg c_9, if_neg (rate_n4 hr4 hre c_2), hrc, nI_clamp (show k < 2 ^ 31 by omega), ite_self]); exact hP⟩, hS.F ht⟩) hS.2.2 d_M_rate_78
        · skip
          refine lv_iconst (v := 0) hx hb d_M_rate_41 (by decide) ?_
          exact W.zret hx hb hr rfl (fun t ht hW => ⟨⟨_, (), rfl, by (try simp only [x_rate, x_addRow, if_neg c_1, if_neg c_2, if_neg c_3, if_pos c_4, if_neg (rate_n4 hr4 hre c_2), hrc, nI_clamp (show k < 2 ^ 31 by omega), ite_self]); first | done | rfl | assumption | exact x_within_1 (by assumption), by dsimp only; rw [ht]; (try simp only [x_rate, x_addRow, if_neg c_1, if_neg c_2, if_neg c_3, if_pos c_4, if_neg (rate_n4 hr4 hre c_2), hrc, nI_clamp (show k < 2 ^ 31 by omega), ite_self]); exact hP⟩, hS.F ht⟩) hS.2.2 d_M_rate_42
set_option maxHeartbeats 4000000 in
set_option maxRecDepth 100000 in
theorem c_M_rateOf (l : Launch) (g : wG) (ad : Nat → Nat) {L : Nat} (hL : 1 ≤ L ∧ L ≤ 6) (x : xS) (pk : Nat) (hp : pk < 3) (hro : ∃ r, r ≤ 4 ∧ xY x pk 0 = nI r) (a2 : Int64) : CtL l y_M_rateOf ws_M_rateOf ({ frames := 0, cells := 0, slots := 0, locals := 0 }) g 14 ad (mE g ad L x) (mE g ad L x) [.ref (ad 0), .int (nI pk), .long a2] (m_rate x pk a2) := by
  intro sz
  refine Met.ofW (cc := b_M_rateOf) (maxL := 7) (ret := (some .long)) (by decide +kernel) rfl ?_
  intro p e s m args below meth c s₁ B hml hv
  obtain ⟨rfl, hsz, hP, hK, hN, hJ⟩ := hv
  have hx := B.exec
  have hb := B.bytes
  have hr := B.returns
  have hts0 := atoms_spec (ws := ws_M_rateOf) B.pre
  have hts : ∀ w ∈ tb, w.before _ s = true := fun w h => hts0 w (List.mem_cons_of_mem _ h)
  have hown : s.vm.findClass "HeapStepsModel" = some m.cls := findClass_of_methodNamed B.named
  have hlocks := B.notSynchronized
  subst hsz
  have hS : va_S (wA 14 ad s.heap.size) s.heap s.heap [] := va_S.rf
  have hl := lv_entry ([.ref (ad 0), .int (nI pk), .long a2]) (n := 7) (Nat.le_of_ble_eq_true rfl)
  rw [lg_entry_eq]
  generalize (lg_sl ([.ref (ad 0), .int (nI pk), .long a2]) ++ List.replicate (7 - (lg_sl ([.ref (ad 0), .int (nI pk), .long a2])).length) Slot.unset).toArray = ls at hl ⊢
  have hl : lv_has ls 7 [(0, .ref (ad 0)), (1, .int (nI pk)), (2, .long a2)] := hl
  obtain ⟨r, hr4, hre⟩ := hro
  have hrc : (xY x pk 0).toNatClampNeg = r := by rw [hre]; exact nI_clamp (by omega)
  refine lv_lconst (v := 0) hx hb d_M_rateOf_0 (by decide) ?_
  refine lv_lstore (lv' := [(4, .long 0), (0, .ref (ad 0)), (1, .int (nI pk)), (2, .long a2)]) hx hb d_M_rateOf_1 hl (by decide) rfl (fun ls hl => ?_)
  refine lv_iconst (v := 4) hx hb d_M_rateOf_3 (by decide) ?_
  refine lv_iload_n hx hb d_M_rateOf_4 rfl (lv_at hl 2 rfl) ?_
  refine lv_imul hx hb d_M_rateOf_5 ?_
  rw [mI4']
  refine lv_istore (lv' := [(6, .int (nI (4 * pk))), (4, .long 0), (0, .ref (ad 0)), (1, .int (nI pk)), (2, .long a2)]) hx hb d_M_rateOf_6 hl (by decide) rfl (fun ls hl => ?_)
  refine wl_loop (pc := 8) (fun fu H locs ls => ∃ i : Nat, i + fu = r ∧ va_P g.1 vwCl (wo 14 ad (mE g ad L x)) H ∧ va_S (wA 14 ad s.heap.size) s.heap H locs ∧ lv_has ls 7 [(6, .int (nI (4 * pk + i))), (4, .long (m_rateN x pk a2 i)), (2, .long a2), (1, .int (nI pk)), (0, .ref (ad 0))]) ?_ ?_ r _ _ _ ⟨0, by omega, hP, hS, lv_sub hl [0, 1, 4, 3, 2] rfl⟩
  · intro H locs ls hI
    obtain ⟨i, hi, hP, hS, hl⟩ := hI
    have hT_i : i = r := by omega
    try rw [hT_i] at hP
    try rw [hT_i] at hl
    refine lv_iload hx hb d_M_rateOf_8 (lv_at hl 0 rfl) ?_
    refine lv_iconst (v := 4) hx hb d_M_rateOf_10 (by decide) ?_
    refine lv_iload_n hx hb d_M_rateOf_11 rfl (lv_at hl 3 rfl) ?_
    refine lv_imul hx hb d_M_rateOf_12 ?_
    refine lv_aload_n hx hb d_M_rateOf_13 rfl (lv_at hl 4 rfl) ?_
    refine wr_get hx hb hts in_M hown hK hP (0) (by omega) rfl rfl 6 (by decide) (hts _ tw_347) rfl d_M_rateOf_14 ?_
    refine lv_iload_n hx hb d_M_rateOf_17 rfl (lv_at hl 3 rfl) ?_
    refine wr_ialdv (v := xY x pk 0) hx hb hK hP (6) 1 (by omega) rfl rfl pk rfl (by omega) (by omega) rfl d_M_rateOf_18 ?_
    rw [hre]
    refine lv_iadd hx hb d_M_rateOf_19 ?_
    rw [mI4]
    refine lv_icmp_ge (tgt := 57) hx hb d_M_rateOf_20 (by decide) (fun c_1 => ?_) (fun c_1 => absurd (nI_le (by omega) (by omega)) c_1)
    refine lv_lload hx hb d_M_rateOf_57 (lv_at hl 1 rfl) ?_
    exact W.lret hx hb hr (fun t ht hW => ⟨⟨_, (), rfl, by (try simp only [m_rate, hrc, ite_self]); first | done | rfl | assumption | exact x_within_1 (by assumption), by dsimp only; rw [ht]; (try simp only [m_rate, hrc, ite_self]); exact hP⟩, hS.F ht⟩) hS.2.2 d_M_rateOf_59
  · intro fu ih_i H locs ls hI
    obtain ⟨i, hi, hP, hS, hl⟩ := hI
    have hi_i : i < r := by omega
    refine lv_iload hx hb d_M_rateOf_8 (lv_at hl 0 rfl) ?_
    refine lv_iconst (v := 4) hx hb d_M_rateOf_10 (by decide) ?_
    refine lv_iload_n hx hb d_M_rateOf_11 rfl (lv_at hl 3 rfl) ?_
    refine lv_imul hx hb d_M_rateOf_12 ?_
    refine lv_aload_n hx hb d_M_rateOf_13 rfl (lv_at hl 4 rfl) ?_
    refine wr_get hx hb hts in_M hown hK hP (0) (by omega) rfl rfl 6 (by decide) (hts _ tw_347) rfl d_M_rateOf_14 ?_
    refine lv_iload_n hx hb d_M_rateOf_17 rfl (lv_at hl 3 rfl) ?_
    refine wr_ialdv (v := xY x pk 0) hx hb hK hP (6) 1 (by omega) rfl rfl pk rfl (by omega) (by omega) rfl d_M_rateOf_18 ?_
    rw [hre]
    refine lv_iadd hx hb d_M_rateOf_19 ?_
    rw [mI4]
    refine lv_icmp_ge (tgt := 57) hx hb d_M_rateOf_20 (by decide) (fun c_2 => absurd c_2 (nI_ge (by omega) (by omega))) (fun c_2 => ?_)
    refine lv_aload_n hx hb d_M_rateOf_23 rfl (lv_at hl 4 rfl) ?_
    refine wr_get hx hb hts in_M hown hK hP (0) (by omega) rfl rfl 7 (by decide) (hts _ tw_348) rfl d_M_rateOf_24 ?_
    refine lv_iload hx hb d_M_rateOf_27 (lv_at hl 0 rfl) ?_
    refine wr_ialdv (v := xR x pk 0 i) hx hb hK hP (7) 1 (by omega) rfl rfl (4 * pk + i) rfl (by omega) (by omega) (mRW x pk i 0 (by omega)) d_M_rateOf_29 ?_
    refine lv_i2l hx hb d_M_rateOf_30 rfl ?_
    refine lv_lload_n hx hb d_M_rateOf_31 rfl (lv_at hl 2 rfl) ?_
    refine W.lcmp hx hb d_M_rateOf_32 ?_
    refine lv_if_gt (tgt := 47) hx hb d_M_rateOf_33 (by decide) (fun c_3 => ?_) (fun c_3 => ?_)
    · skip
      refine lv_lload hx hb d_M_rateOf_47 (lv_at hl 1 rfl) ?_
      refine lv_topl (fun v_4 ev_4 => ?_)
      refine lv_lstore (lv' := [(4, .long v_4), (6, .int (nI (4 * pk + i))), (2, .long a2), (1, .int (nI pk)), (0, .ref (ad 0))]) hx hb d_M_rateOf_49 hl (by decide) rfl (fun ls hl => ?_)
      refine lv_iinc (v := nI (4 * pk + i + 1)) (lv' := [(6, .int (nI (4 * pk + i + 1))), (4, .long v_4), (2, .long a2), (1, .int (nI pk)), (0, .ref (ad 0))]) hx hb d_M_rateOf_51 hl (k := 1) rfl (nI_1 (4 * pk + i)) (by decide) rfl (fun ls hl => ?_)
      refine lv_goto (tgt := 8) hx hb d_M_rateOf_54 (by decide) ?_
      subst ev_4
      exact ih_i _ _ _ ⟨i + 1, by omega, (by (try simp only [m_rateN, if_pos c_3]); exact hP), hS, lv_sub hl [0, 1, 2, 3, 4] (by (try simp only [m_rateN, if_pos c_3]); rfl)⟩
    · skip
      refine lv_aload_n hx hb d_M_rateOf_36 rfl (lv_at hl 4 rfl) ?_
      refine wr_get hx hb hts in_M hown hK hP (0) (by omega) rfl rfl 8 (by decide) (hts _ tw_349) rfl d_M_rateOf_37 ?_
      refine lv_iload hx hb d_M_rateOf_40 (lv_at hl 0 rfl) ?_
      refine wr_ialdv (v := xR x pk 1 i) hx hb hK hP (8) 1 (by omega) rfl rfl (4 * pk + i) rfl (by omega) (by omega) (mRW x pk i 1 (by omega)) d_M_rateOf_42 ?_
      refine lv_i2l hx hb d_M_rateOf_43 rfl ?_
      refine lv_goto (tgt := 49) hx hb d_M_rateOf_44 (by decide) ?_
      refine lv_topl (fun v_5 ev_5 => ?_)
      refine lv_lstore (lv' := [(4, .long v_5), (6, .int (nI (4 * pk + i))), (2, .long a2), (1, .int (nI pk)), (0, .ref (ad 0))]) hx hb d_M_rateOf_49 hl (by decide) rfl (fun ls hl => ?_)
      refine lv_iinc (v := nI (4 * pk + i + 1)) (lv' := [(6, .int (nI (4 * pk + i + 1))), (4, .long v_5), (2, .long a2), (1, .int (nI pk)), (0, .ref (ad 0))]) hx hb d_M_rateOf_51 hl (k := 1) rfl (nI_1 (4 * pk + i)) (by decide) rfl (fun ls hl => ?_)
      refine lv_goto (tgt := 8) hx hb d_M_rateOf_54 (by decide) ?_
      subst ev_5
      exact ih_i _ _ _ ⟨i + 1, by omega, (by (try simp only [m_rateN, if_neg c_3]); exact hP), hS, lv_sub hl [0, 1, 2, 3, 4] (by (try simp only [m_rateN, if_neg c_3]); rfl)⟩
end
section
set_option maxHeartbeats 4000000 in
set_option maxRecDepth 100000 in
theorem c_M_massOf (l : Launch) (g : wG) (ad : Nat → Nat) {L : Nat} (hL : 1 ≤ L ∧ L ≤ 6) (x : xS) (i : Nat) (hi : i < 6) : CtL l y_M_massOf ws_M_massOf ({ frames := 0, cells := 0, slots := 0, locals := 0 }) g 14 ad (mE g ad L x) (mE g ad L x) [.ref (ad 0), .int (nI i)] (x_mass x i) := by
  intro sz
  refine Met.ofW (cc := b_M_massOf) (maxL := 5) (ret := (some .long)) (by decide +kernel) rfl ?_
  intro p e s m args below meth c s₁ B hml hv
  obtain ⟨rfl, hsz, hP, hK, hN, hJ⟩ := hv
  have hx := B.exec
  have hb := B.bytes
  have hr := B.returns
  have hts0 := atoms_spec (ws := ws_M_massOf) B.pre
  have hts : ∀ w ∈ tb, w.before _ s = true := fun w h => hts0 w (List.mem_cons_of_mem _ h)
  have hown : s.vm.findClass "HeapStepsModel" = some m.cls := findClass_of_methodNamed B.named
  have hlocks := B.notSynchronized
  subst hsz
  have hS : va_S (wA 14 ad s.heap.size) s.heap s.heap [] := va_S.rf
  have hl := lv_entry ([.ref (ad 0), .int (nI i)]) (n := 5) (Nat.le_of_ble_eq_true rfl)
  rw [lg_entry_eq]
  generalize (lg_sl ([.ref (ad 0), .int (nI i)]) ++ List.replicate (5 - (lg_sl ([.ref (ad 0), .int (nI i)])).length) Slot.unset).toArray = ls at hl ⊢
  have hl : lv_has ls 5 [(0, .ref (ad 0)), (1, .int (nI i))] := hl
  refine lv_aload_n hx hb d_M_massOf_0 rfl (lv_at hl 0 rfl) ?_
  refine wr_get hx hb hts in_M hown hK hP (0) (by omega) rfl rfl 2 (by decide) (hts _ tw_343) rfl d_M_massOf_1 ?_
  refine lv_iload_n hx hb d_M_massOf_4 rfl (lv_at hl 1 rfl) ?_
  refine wr_laldv (v := xT x i 3) hx hb hK hP (2) 0 (by omega) rfl rfl i rfl (by omega) (by omega) rfl d_M_massOf_5 ?_
  refine lv_topl (fun v_1 ev_1 => ?_)
  refine lv_lstore_n (lv' := [(2, .long v_1), (0, .ref (ad 0)), (1, .int (nI i))]) hx hb d_M_massOf_6 rfl hl (by decide) rfl (fun ls hl => ?_)
  refine lv_iconst (v := 0) hx hb d_M_massOf_7 (by decide) ?_
  refine lv_istore (lv' := [(4, .int 0), (2, .long v_1), (0, .ref (ad 0)), (1, .int (nI i))]) hx hb d_M_massOf_8 hl (by decide) rfl (fun ls hl => ?_)
  refine lv_iload hx hb d_M_massOf_10 (lv_at hl 0 rfl) ?_
  refine lv_iconst (v := 3) hx hb d_M_massOf_12 (by decide) ?_
  refine lv_icmp_ge (tgt := 36) hx hb d_M_massOf_13 (by decide) (fun c_2 => absurd c_2 (by decide)) (fun c_2 => ?_)
  refine lv_lload_n hx hb d_M_massOf_16 rfl (lv_at hl 1 rfl) ?_
  refine lv_aload_n hx hb d_M_massOf_17 rfl (lv_at hl 2 rfl) ?_
  refine wr_get hx hb hts in_M hown hK hP (0) (by omega) rfl rfl 1 (by decide) (hts _ tw_342) rfl d_M_massOf_18 ?_
  refine lv_iconst (v := 3) hx hb d_M_massOf_21 (by decide) ?_
  refine lv_iload_n hx hb d_M_massOf_22 rfl (lv_at hl 3 rfl) ?_
  refine lv_imul hx hb d_M_massOf_23 ?_
  refine lv_iload hx hb d_M_massOf_24 (lv_at hl 0 rfl) ?_
  refine lv_iadd hx hb d_M_massOf_26 ?_
  refine wr_laldv (v := xT x i 0) hx hb hK hP (1) 0 (by omega) rfl rfl (3 * i + 0) (mI3 i 0) (by omega) (by omega) (mPA x i 0 (by omega)) d_M_massOf_27 ?_
  refine lv_ladd hx hb d_M_massOf_28 ?_
  refine lv_topl (fun v_3 ev_3 => ?_)
  refine lv_lstore_n (lv' := [(2, .long v_3), (4, .int 0), (0, .ref (ad 0)), (1, .int (nI i))]) hx hb d_M_massOf_29 rfl hl (by decide) rfl (fun ls hl => ?_)
  refine lv_iinc (v := 1) (lv' := [(4, .int 1), (2, .long v_3), (0, .ref (ad 0)), (1, .int (nI i))]) hx hb d_M_massOf_30 hl (k := 1) rfl (by decide) (by decide) rfl (fun ls hl => ?_)
  refine lv_goto (tgt := 10) hx hb d_M_massOf_33 (by decide) ?_
  refine lv_iload hx hb d_M_massOf_10 (lv_at hl 0 rfl) ?_
  refine lv_iconst (v := 3) hx hb d_M_massOf_12 (by decide) ?_
  refine lv_icmp_ge (tgt := 36) hx hb d_M_massOf_13 (by decide) (fun c_4 => absurd c_4 (by decide)) (fun c_4 => ?_)
  refine lv_lload_n hx hb d_M_massOf_16 rfl (lv_at hl 1 rfl) ?_
  refine lv_aload_n hx hb d_M_massOf_17 rfl (lv_at hl 2 rfl) ?_
  refine wr_get hx hb hts in_M hown hK hP (0) (by omega) rfl rfl 1 (by decide) (hts _ tw_342) rfl d_M_massOf_18 ?_
  refine lv_iconst (v := 3) hx hb d_M_massOf_21 (by decide) ?_
  refine lv_iload_n hx hb d_M_massOf_22 rfl (lv_at hl 3 rfl) ?_
  refine lv_imul hx hb d_M_massOf_23 ?_
  refine lv_iload hx hb d_M_massOf_24 (lv_at hl 0 rfl) ?_
  refine lv_iadd hx hb d_M_massOf_26 ?_
  refine wr_laldv (v := xT x i 1) hx hb hK hP (1) 0 (by omega) rfl rfl (3 * i + 1) (mI3 i 1) (by omega) (by omega) (mPA x i 1 (by omega)) d_M_massOf_27 ?_
  refine lv_ladd hx hb d_M_massOf_28 ?_
  refine lv_topl (fun v_5 ev_5 => ?_)
  refine lv_lstore_n (lv' := [(2, .long v_5), (4, .int 1), (0, .ref (ad 0)), (1, .int (nI i))]) hx hb d_M_massOf_29 rfl hl (by decide) rfl (fun ls hl => ?_)
  refine lv_iinc (v := 2) (lv' := [(4, .int 2), (2, .long v_5), (0, .ref (ad 0)), (1, .int (nI i))]) hx hb d_M_massOf_30 hl (k := 1) rfl (by decide) (by decide) rfl (fun ls hl => ?_)
  refine lv_goto (tgt := 10) hx hb d_M_massOf_33 (by decide) ?_
  refine lv_iload hx hb d_M_massOf_10 (lv_at hl 0 rfl) ?_
  refine lv_iconst (v := 3) hx hb d_M_massOf_12 (by decide) ?_
  refine lv_icmp_ge (tgt := 36) hx hb d_M_massOf_13 (by decide) (fun c_6 => absurd c_6 (by decide)) (fun c_6 => ?_)
  refine lv_lload_n hx hb d_M_massOf_16 rfl (lv_at hl 1 rfl) ?_
  refine lv_aload_n hx hb d_M_massOf_17 rfl (lv_at hl 2 rfl) ?_
  refine wr_get hx hb hts in_M hown hK hP (0) (by omega) rfl rfl 1 (by decide) (hts _ tw_342) rfl d_M_massOf_18 ?_
  refine lv_iconst (v := 3) hx hb d_M_massOf_21 (by decide) ?_
  refine lv_iload_n hx hb d_M_massOf_22 rfl (lv_at hl 3 rfl) ?_
  refine lv_imul hx hb d_M_massOf_23 ?_
  refine lv_iload hx hb d_M_massOf_24 (lv_at hl 0 rfl) ?_
  refine lv_iadd hx hb d_M_massOf_26 ?_
  refine wr_laldv (v := xT x i 2) hx hb hK hP (1) 0 (by omega) rfl rfl (3 * i + 2) (mI3 i 2) (by omega) (by omega) (mPA x i 2 (by omega)) d_M_massOf_27 ?_
  refine lv_ladd hx hb d_M_massOf_28 ?_
  refine lv_topl (fun v_7 ev_7 => ?_)
  refine lv_lstore_n (lv' := [(2, .long v_7), (4, .int 2), (0, .ref (ad 0)), (1, .int (nI i))]) hx hb d_M_massOf_29 rfl hl (by decide) rfl (fun ls hl => ?_)
  refine lv_iinc (v := 3) (lv' := [(4, .int 3), (2, .long v_7), (0, .ref (ad 0)), (1, .int (nI i))]) hx hb d_M_massOf_30 hl (k := 1) rfl (by decide) (by decide) rfl (fun ls hl => ?_)
  refine lv_goto (tgt := 10) hx hb d_M_massOf_33 (by decide) ?_
  refine lv_iload hx hb d_M_massOf_10 (lv_at hl 0 rfl) ?_
  refine lv_iconst (v := 3) hx hb d_M_massOf_12 (by decide) ?_
  refine lv_icmp_ge (tgt := 36) hx hb d_M_massOf_13 (by decide) (fun c_8 => ?_) (fun c_8 => absurd (by decide) c_8)
  refine lv_lload_n hx hb d_M_massOf_36 rfl (lv_at hl 1 rfl) ?_
  subst ev_1
  subst ev_3
  subst ev_5
  subst ev_7
  exact W.lret hx hb hr (fun t ht hW => ⟨⟨_, (), rfl, by (try simp only [x_mass, ite_self]); first | done | rfl | assumption | exact x_within_1 (by assumption), by dsimp only; rw [ht]; (try simp only [x_mass, ite_self]); exact hP⟩, hS.F ht⟩) hS.2.2 d_M_massOf_37
set_option maxHeartbeats 4000000 in
set_option maxRecDepth 100000 in
theorem c_M_warmthOf (l : Launch) (g : wG) (ad : Nat → Nat) {L : Nat} (hL : 1 ≤ L ∧ L ≤ 6) (x : xS) (i : Nat) (hi : i < 6) : CtL l y_M_warmthOf ws_M_warmthOf ({ frames := 1, cells := 0, slots := 0, locals := 24 }) g 14 ad (mE g ad L x) (mE g ad L x) [.ref (ad 0), .int (nI i)] (m_warm x i) := by
  intro sz
  refine Met.ofW (cc := b_M_warmthOf) (maxL := 2) (ret := (some .long)) (by decide +kernel) rfl ?_
  intro p e s m args below meth c s₁ B hml hv
  obtain ⟨rfl, hsz, hP, hK, hN, hJ⟩ := hv
  have hx := B.exec
  have hb := B.bytes
  have hr := B.returns
  have hts0 := atoms_spec (ws := ws_M_warmthOf) B.pre
  have hts : ∀ w ∈ tb, w.before _ s = true := fun w h => hts0 w (List.mem_cons_of_mem _ h)
  have hown : s.vm.findClass "HeapStepsModel" = some m.cls := findClass_of_methodNamed B.named
  have hlocks := B.notSynchronized
  subst hsz
  have hS : va_S (wA 14 ad s.heap.size) s.heap s.heap [] := va_S.rf
  have hl := lv_entry ([.ref (ad 0), .int (nI i)]) (n := 2) (Nat.le_of_ble_eq_true rfl)
  rw [lg_entry_eq]
  generalize (lg_sl ([.ref (ad 0), .int (nI i)]) ++ List.replicate (2 - (lg_sl ([.ref (ad 0), .int (nI i)])).length) Slot.unset).toArray = ls at hl ⊢
  have hl : lv_has ls 2 [(0, .ref (ad 0)), (1, .int (nI i))] := hl
  refine lv_aload_n hx hb d_M_warmthOf_0 rfl (lv_at hl 0 rfl) ?_
  refine lv_iload_n hx hb d_M_warmthOf_1 rfl (lv_at hl 1 rfl) ?_
  refine wc_l (va_runV (As := [.int (nI i)]) (rest := []) ⟨hx, hb, hml, hown, hts⟩ (c_M_massOf l g ad hL x i (by omega) _) (cwV 1 hts (gd_V tw_482 tw_484 tw_15 tw_28 tw_485) rfl rfl rfl (by decide +kernel) ⟨Nat.le_of_ble_eq_true rfl, Nat.le_of_ble_eq_true rfl⟩) (wp_V hK hN hP hJ (0) (by omega) rfl rfl) rfl rfl hl.1 rfl (lv_room (Nat.le_of_ble_eq_true rfl)) d_M_warmthOf_2 ⟨Nat.zero_le _, Nat.zero_le _⟩) hS (fun H locs hP hS => ?_)
  refine lv_lconst (v := 0) hx hb d_M_warmthOf_5 (by decide) ?_
  refine W.lcmp hx hb d_M_warmthOf_6 ?_
  refine lv_if_ne (tgt := 14) hx hb d_M_warmthOf_7 (by decide) (fun c_1 => ?_) (fun c_1 => ?_)
  · skip
    refine lv_aload_n hx hb d_M_warmthOf_14 rfl (lv_at hl 0 rfl) ?_
    refine wr_get hx hb hts in_M hown hK hP (0) (by omega) rfl rfl 3 (by decide) (hts _ tw_344) rfl d_M_warmthOf_15 ?_
    refine lv_iload_n hx hb d_M_warmthOf_18 rfl (lv_at hl 1 rfl) ?_
    refine wr_laldv (v := xT x i 4) hx hb hK hP (3) 0 (by omega) rfl rfl i rfl (by omega) (by omega) rfl d_M_warmthOf_19 ?_
    refine lv_aload_n hx hb d_M_warmthOf_20 rfl (lv_at hl 0 rfl) ?_
    refine lv_iload_n hx hb d_M_warmthOf_21 rfl (lv_at hl 1 rfl) ?_
    refine wc_l (va_runV (As := [.int (nI i)]) (rest := [.long (xT x i 4)]) ⟨hx, hb, hml, hown, hts⟩ (c_M_massOf l g ad hL x i (by omega) _) (cwV 1 hts (gd_V tw_482 tw_484 tw_15 tw_28 tw_485) rfl rfl rfl (by decide +kernel) ⟨Nat.le_of_ble_eq_true rfl, Nat.le_of_ble_eq_true rfl⟩) (wp_V hK hN hP hJ (0) (by omega) rfl rfl) rfl rfl hl.1 rfl (lv_room (Nat.le_of_ble_eq_true rfl)) d_M_warmthOf_22 ⟨Nat.zero_le _, Nat.zero_le _⟩) hS (fun H locs hP hS => ?_)
    refine lv_ldiv hx hb d_M_warmthOf_25 (fun q => c_1 ((lg_cmp_eq _ _).mpr q)) ?_
    exact W.lret hx hb hr (fun t ht hW => ⟨⟨_, (), rfl, by (try simp only [m_warm, if_neg c_1, ite_self]); first | done | rfl | assumption | exact x_within_1 (by assumption), by dsimp only; rw [ht]; (try simp only [m_warm, if_neg c_1, ite_self]); exact hP⟩, hS.F ht⟩) hS.2.2 d_M_warmthOf_26
  · skip
    refine lv_lconst (v := 0) hx hb d_M_warmthOf_10 (by decide) ?_
    refine lv_goto (tgt := 26) hx hb d_M_warmthOf_11 (by decide) ?_
    exact W.lret hx hb hr (fun t ht hW => ⟨⟨_, (), rfl, by (try simp only [m_warm, if_pos c_1, ite_self]); first | done | rfl | assumption | exact x_within_1 (by assumption), by dsimp only; rw [ht]; (try simp only [m_warm, if_pos c_1, ite_self]); exact hP⟩, hS.F ht⟩) hS.2.2 d_M_warmthOf_26
set_option maxHeartbeats 4000000 in
set_option maxRecDepth 100000 in
theorem c_M_warmest (l : Launch) (g : wG) (ad : Nat → Nat) {L : Nat} (hL : 1 ≤ L ∧ L ≤ 6) (x : xS) : CtL l y_M_warmest ws_M_warmest ({ frames := 2, cells := 0, slots := 0, locals := 45 }) g 14 ad (mE g ad L x) (mE g ad L x) [.ref (ad 0)] (m_wN x (L - 1)) := by
  intro sz
  refine Met.ofW (cc := b_M_warmest) (maxL := 4) (ret := (some .long)) (by decide +kernel) rfl ?_
  intro p e s m args below meth c s₁ B hml hv
  obtain ⟨rfl, hsz, hP, hK, hN, hJ⟩ := hv
  have hx := B.exec
  have hb := B.bytes
  have hr := B.returns
  have hts0 := atoms_spec (ws := ws_M_warmest) B.pre
  have hts : ∀ w ∈ tb, w.before _ s = true := fun w h => hts0 w (List.mem_cons_of_mem _ h)
  have hown : s.vm.findClass "HeapStepsModel" = some m.cls := findClass_of_methodNamed B.named
  have hlocks := B.notSynchronized
  subst hsz
  have hS : va_S (wA 14 ad s.heap.size) s.heap s.heap [] := va_S.rf
  have hl := lv_entry ([.ref (ad 0)]) (n := 4) (Nat.le_of_ble_eq_true rfl)
  rw [lg_entry_eq]
  generalize (lg_sl ([.ref (ad 0)]) ++ List.replicate (4 - (lg_sl ([.ref (ad 0)])).length) Slot.unset).toArray = ls at hl ⊢
  have hl : lv_has ls 4 [(0, .ref (ad 0))] := hl
  refine lv_aload_n hx hb d_M_warmest_0 rfl (lv_at hl 0 rfl) ?_
  refine lv_iconst (v := 0) hx hb d_M_warmest_1 (by decide) ?_
  refine wc_l (va_runV (As := [.int 0]) (rest := []) ⟨hx, hb, hml, hown, hts⟩ (c_M_warmthOf l g ad hL x 0 (by omega) _) (cwV 1 hts (gd_V tw_478 tw_480 tw_14 tw_28 tw_481) rfl rfl rfl (by decide +kernel) ⟨Nat.le_of_ble_eq_true rfl, Nat.le_of_ble_eq_true rfl⟩) (wp_V hK hN hP hJ (0) (by omega) rfl rfl) rfl rfl hl.1 rfl (lv_room (Nat.le_of_ble_eq_true rfl)) d_M_warmest_2 ⟨Nat.zero_le _, Nat.zero_le _⟩) hS (fun H locs hP hS => ?_)
  refine lv_lstore_n (lv' := [(1, .long (m_warm x 0)), (0, .ref (ad 0))]) hx hb d_M_warmest_5 rfl hl (by decide) rfl (fun ls hl => ?_)
  refine lv_iconst (v := 1) hx hb d_M_warmest_6 (by decide) ?_
  refine lv_istore_n (lv' := [(3, .int 1), (1, .long (m_warm x 0)), (0, .ref (ad 0))]) hx hb d_M_warmest_7 rfl hl (by decide) rfl (fun ls hl => ?_)
  refine wl_loop (pc := 8) (fun fu H locs ls => ∃ i : Nat, i + fu = L - 1 ∧ va_P g.1 vwCl (wo 14 ad (mE g ad L x)) H ∧ va_S (wA 14 ad s.heap.size) s.heap H locs ∧ lv_has ls 4 [(3, .int (nI (i + 1))), (1, .long (m_wN x i)), (0, .ref (ad 0))]) ?_ ?_ (L - 1) _ _ _ ⟨0, by omega, hP, hS, lv_sub hl [0, 1, 2] rfl⟩
  · intro H locs ls hI
    obtain ⟨i, hi, hP, hS, hl⟩ := hI
    have hT_i : i = L - 1 := by omega
    try rw [hT_i] at hP
    try rw [hT_i] at hl
    refine lv_iload_n hx hb d_M_warmest_8 rfl (lv_at hl 0 rfl) ?_
    refine lv_aload_n hx hb d_M_warmest_9 rfl (lv_at hl 2 rfl) ?_
    refine wr_get hx hb hts in_M hown hK hP (0) (by omega) rfl rfl 0 (by decide) (hts _ tw_341) rfl d_M_warmest_10 ?_
    refine lv_icmp_ge (tgt := 42) hx hb d_M_warmest_13 (by decide) (fun c_1 => ?_) (fun c_1 => absurd (nI_le (by omega) (by omega)) c_1)
    refine lv_lload_n hx hb d_M_warmest_42 rfl (lv_at hl 1 rfl) ?_
    exact W.lret hx hb hr (fun t ht hW => ⟨⟨_, (), rfl, by skip; first | done | rfl | assumption | exact x_within_1 (by assumption), by dsimp only; rw [ht]; skip; exact hP⟩, hS.F ht⟩) hS.2.2 d_M_warmest_43
  · intro fu ih_i H locs ls hI
    obtain ⟨i, hi, hP, hS, hl⟩ := hI
    have hi_i : i < L - 1 := by omega
    refine lv_iload_n hx hb d_M_warmest_8 rfl (lv_at hl 0 rfl) ?_
    refine lv_aload_n hx hb d_M_warmest_9 rfl (lv_at hl 2 rfl) ?_
    refine wr_get hx hb hts in_M hown hK hP (0) (by omega) rfl rfl 0 (by decide) (hts _ tw_341) rfl d_M_warmest_10 ?_
    refine lv_icmp_ge (tgt := 42) hx hb d_M_warmest_13 (by decide) (fun c_2 => absurd c_2 (nI_ge (by omega) (by omega))) (fun c_2 => ?_)
    refine lv_aload_n hx hb d_M_warmest_16 rfl (lv_at hl 2 rfl) ?_
    refine lv_iload_n hx hb d_M_warmest_17 rfl (lv_at hl 0 rfl) ?_
    refine wc_l (va_runV (As := [.int (nI (i + 1))]) (rest := []) ⟨hx, hb, hml, hown, hts⟩ (c_M_warmthOf l g ad hL x (i + 1) (by omega) _) (cwV 1 hts (gd_V tw_478 tw_480 tw_14 tw_28 tw_481) rfl rfl rfl (by decide +kernel) ⟨Nat.le_of_ble_eq_true rfl, Nat.le_of_ble_eq_true rfl⟩) (wp_V hK hN hP hJ (0) (by omega) rfl rfl) rfl rfl hl.1 rfl (lv_room (Nat.le_of_ble_eq_true rfl)) d_M_warmest_18 ⟨Nat.zero_le _, Nat.zero_le _⟩) hS (fun H locs hP hS => ?_)
    refine lv_lload_n hx hb d_M_warmest_21 rfl (lv_at hl 1 rfl) ?_
    refine W.lcmp hx hb d_M_warmest_22 ?_
    refine lv_if_le (tgt := 34) hx hb d_M_warmest_23 (by decide) (fun c_3 => ?_) (fun c_3 => ?_)
    · skip
      refine lv_lload_n hx hb d_M_warmest_34 rfl (lv_at hl 1 rfl) ?_
      refine lv_topl (fun v_4 ev_4 => ?_)
      refine lv_lstore_n (lv' := [(1, .long v_4), (3, .int (nI (i + 1))), (0, .ref (ad 0))]) hx hb d_M_warmest_35 rfl hl (by decide) rfl (fun ls hl => ?_)
      refine lv_iinc (v := nI (i + 1 + 1)) (lv' := [(3, .int (nI (i + 1 + 1))), (1, .long v_4), (0, .ref (ad 0))]) hx hb d_M_warmest_36 hl (k := 1) rfl (nI_1 (i + 1)) (by decide) rfl (fun ls hl => ?_)
      refine lv_goto (tgt := 8) hx hb d_M_warmest_39 (by decide) ?_
      subst ev_4
      exact ih_i _ _ _ ⟨i + 1, by omega, (by (try simp only [m_wN, if_pos c_3]); exact hP), hS, lv_sub hl [0, 1, 2] (by (try simp only [m_wN, if_pos c_3]); rfl)⟩
    · skip
      refine lv_aload_n hx hb d_M_warmest_26 rfl (lv_at hl 2 rfl) ?_
      refine lv_iload_n hx hb d_M_warmest_27 rfl (lv_at hl 0 rfl) ?_
      refine wc_l (va_runV (As := [.int (nI (i + 1))]) (rest := []) ⟨hx, hb, hml, hown, hts⟩ (c_M_warmthOf l g ad hL x (i + 1) (by omega) _) (cwV 1 hts (gd_V tw_478 tw_480 tw_14 tw_28 tw_481) rfl rfl rfl (by decide +kernel) ⟨Nat.le_of_ble_eq_true rfl, Nat.le_of_ble_eq_true rfl⟩) (wp_V hK hN hP hJ (0) (by omega) rfl rfl) rfl rfl hl.1 rfl (lv_room (Nat.le_of_ble_eq_true rfl)) d_M_warmest_28 ⟨Nat.zero_le _, Nat.zero_le _⟩) hS (fun H locs hP hS => ?_)
      refine lv_goto (tgt := 35) hx hb d_M_warmest_31 (by decide) ?_
      refine lv_topl (fun v_5 ev_5 => ?_)
      refine lv_lstore_n (lv' := [(1, .long v_5), (3, .int (nI (i + 1))), (0, .ref (ad 0))]) hx hb d_M_warmest_35 rfl hl (by decide) rfl (fun ls hl => ?_)
      refine lv_iinc (v := nI (i + 1 + 1)) (lv' := [(3, .int (nI (i + 1 + 1))), (1, .long v_5), (0, .ref (ad 0))]) hx hb d_M_warmest_36 hl (k := 1) rfl (nI_1 (i + 1)) (by decide) rfl (fun ls hl => ?_)
      refine lv_goto (tgt := 8) hx hb d_M_warmest_39 (by decide) ?_
      subst ev_5
      exact ih_i _ _ _ ⟨i + 1, by omega, (by (try simp only [m_wN, if_neg c_3]); exact hP), hS, lv_sub hl [0, 1, 2] (by (try simp only [m_wN, if_neg c_3]); rfl)⟩
set_option maxHeartbeats 4000000 in
set_option maxRecDepth 100000 in
theorem c_M_setFan (l : Launch) (g : wG) (ad : Nat → Nat) {L : Nat} (hL : 1 ≤ L ∧ L ≤ 6) (x : xS) : CtV l y_M_setFan ws_M_setFan ({ frames := 3, cells := 0, slots := 0, locals := 68 }) g 14 ad (mE g ad L x) (mE g ad L (m_setFan L x)) [.ref (ad 0)] := by
  intro sz
  refine Met.ofW (cc := b_M_setFan) (maxL := 7) (ret := none) (by decide +kernel) rfl ?_
  intro p e s m args below meth c s₁ B hml hv
  obtain ⟨rfl, hsz, hP, hK, hN, hJ⟩ := hv
  have hx := B.exec
  have hb := B.bytes
  have hr := B.returns
  have hts0 := atoms_spec (ws := ws_M_setFan) B.pre
  have hts : ∀ w ∈ tb, w.before _ s = true := fun w h => hts0 w (List.mem_cons_of_mem _ h)
  have hown : s.vm.findClass "HeapStepsModel" = some m.cls := findClass_of_methodNamed B.named
  have hlocks := B.notSynchronized
  subst hsz
  have hS : va_S (wA 14 ad s.heap.size) s.heap s.heap [] := va_S.rf
  have hl := lv_entry ([.ref (ad 0)]) (n := 7) (Nat.le_of_ble_eq_true rfl)
  rw [lg_entry_eq]
  generalize (lg_sl ([.ref (ad 0)]) ++ List.replicate (7 - (lg_sl ([.ref (ad 0)])).length) Slot.unset).toArray = ls at hl ⊢
  have hl : lv_has ls 7 [(0, .ref (ad 0))] := hl
  refine lv_aload_n hx hb d_M_setFan_0 rfl (lv_at hl 0 rfl) ?_
  refine wr_get hx hb hts in_M hown hK hP (0) (by omega) rfl rfl 13 (by decide) (hts _ tw_354) rfl d_M_setFan_1 ?_
  refine lv_if_ne (tgt := 8) hx hb d_M_setFan_4 (by decide) (fun c_1 => ?_) (fun c_1 => ?_)
  · skip
    refine lv_aload_n hx hb d_M_setFan_8 rfl (lv_at hl 0 rfl) ?_
    refine wc_l (va_runV (As := []) (rest := []) ⟨hx, hb, hml, hown, hts⟩ (c_M_warmest l g ad hL x _) (cwV 0 hts (gd_V tw_474 tw_476 tw_13 tw_28 tw_477) rfl rfl rfl (by decide +kernel) ⟨Nat.le_of_ble_eq_true rfl, Nat.le_of_ble_eq_true rfl⟩) (wp_V hK hN hP hJ (0) (by omega) rfl rfl) rfl rfl hl.1 rfl (lv_room (Nat.le_of_ble_eq_true rfl)) d_M_setFan_9 ⟨Nat.zero_le _, Nat.zero_le _⟩) hS (fun H locs hP hS => ?_)
    refine lv_aload_n hx hb d_M_setFan_12 rfl (lv_at hl 0 rfl) ?_
    refine wr_get hx hb hts in_M hown hK hP (0) (by omega) rfl rfl 14 (by decide) (hts _ tw_355) rfl d_M_setFan_13 ?_
    refine lv_i2l hx hb d_M_setFan_16 rfl ?_
    refine lv_lsub hx hb d_M_setFan_17 ?_
    refine lv_topl (fun v_2 ev_2 => ?_)
    refine lv_lstore_n (lv' := [(1, .long v_2), (0, .ref (ad 0))]) hx hb d_M_setFan_18 rfl hl (by decide) rfl (fun ls hl => ?_)
    refine lv_aload_n hx hb d_M_setFan_19 rfl (lv_at hl 1 rfl) ?_
    refine lv_aload_n hx hb d_M_setFan_20 rfl (lv_at hl 1 rfl) ?_
    refine wr_get hx hb hts in_M hown hK hP (0) (by omega) rfl rfl 17 (by decide) (hts _ tw_358) rfl d_M_setFan_21 ?_
    refine lv_lload_n hx hb d_M_setFan_24 rfl (lv_at hl 0 rfl) ?_
    refine lv_ladd hx hb d_M_setFan_25 ?_
    refine lv_ldc2 (v := -1000000000) hx hb hown (hts _ tw_510) d_M_setFan_26 ?_
    refine lv_ldc2 (v := 1000000000) hx hb hown (hts _ tw_340) d_M_setFan_29 ?_
    refine wc_l (va_runS (As := [.long ((xF x) + v_2), .long (-1000000000), .long 1000000000]) (rest := [.ref (ad 0)]) ⟨hx, hb, hml, hown, hts⟩ (c_M_cut l g _ ad _ ((xF x) + v_2) (-1000000000) 1000000000 _) (cwS 3 hts (gd_S tw_511 tw_512 tw_28 tw_513) rfl rfl rfl (by decide +kernel) ⟨Nat.le_of_ble_eq_true rfl, Nat.le_of_ble_eq_true rfl⟩) (wp_S hK hN hP hJ) rfl rfl hl.1 rfl (lv_room (Nat.le_of_ble_eq_true rfl)) d_M_setFan_32 ⟨Nat.zero_le _, Nat.zero_le _⟩) hS (fun H locs hP hS => ?_)
    obtain ⟨x_3, ex_3⟩ : ∃ z9, z9 = xF' x (m_cut ((xF x) + v_2) (-1000000000) 1000000000) := ⟨_, rfl⟩
    refine wr_put (E' := mE g ad L x_3) hx hb hts in_M ty_M ty_M_ok n_M hown hK hP hJ hS (0) (by omega) rfl rfl 17 (by decide) (hts _ tw_358) rfl rfl rfl (Nat.le_of_ble_eq_true rfl) (by rw [ex_3]; exact mU_sum g ad L x (m_cut ((xF x) + v_2) (-1000000000) 1000000000)) d_M_setFan_35 (fun H locs hP hS => ?_)
    refine lv_aload_n hx hb d_M_setFan_38 rfl (lv_at hl 1 rfl) ?_
    refine wr_get hx hb hts in_M hown hK hP (0) (by omega) rfl rfl 15 (by decide) (hts _ tw_356) rfl d_M_setFan_39 ?_
    refine lv_i2l hx hb d_M_setFan_42 rfl ?_
    refine lv_lload_n hx hb d_M_setFan_43 rfl (lv_at hl 0 rfl) ?_
    refine lv_lmul hx hb d_M_setFan_44 ?_
    refine lv_aload_n hx hb d_M_setFan_45 rfl (lv_at hl 1 rfl) ?_
    refine wr_get hx hb hts in_M hown hK hP (0) (by omega) rfl rfl 16 (by decide) (hts _ tw_357) rfl d_M_setFan_46 ?_
    refine lv_i2l hx hb d_M_setFan_49 rfl ?_
    refine lv_aload_n hx hb d_M_setFan_50 rfl (lv_at hl 1 rfl) ?_
    refine wr_get hx hb hts in_M hown hK hP (0) (by omega) rfl rfl 17 (by decide) (hts _ tw_358) rfl d_M_setFan_51 ?_
    refine lv_lmul hx hb d_M_setFan_54 ?_
    refine lv_ladd hx hb d_M_setFan_55 ?_
    refine lv_topl (fun v_4 ev_4 => ?_)
    refine lv_lstore_n (lv' := [(3, .long v_4), (1, .long v_2), (0, .ref (ad 0))]) hx hb d_M_setFan_56 rfl hl (by decide) rfl (fun ls hl => ?_)
    refine lv_lload_n hx hb d_M_setFan_57 rfl (lv_at hl 0 rfl) ?_
    refine lv_ldc2 (v := 1000) hx hb hown (hts _ tw_447) d_M_setFan_58 ?_
    refine lv_ldiv hx hb d_M_setFan_61 (by decide) ?_
    refine lv_lload_n hx hb d_M_setFan_62 rfl (lv_at hl 0 rfl) ?_
    refine lv_ldc2 (v := 1000) hx hb hown (hts _ tw_447) d_M_setFan_63 ?_
    refine lv_lrem hx hb d_M_setFan_66 (by decide) ?_
    refine lv_lconst (v := 0) hx hb d_M_setFan_67 (by decide) ?_
    refine W.lcmp hx hb d_M_setFan_68 ?_
    refine lv_if_ge (tgt := 76) hx hb d_M_setFan_69 (by decide) (fun c_5 => ?_) (fun c_5 => ?_)
    · skip
      refine lv_lconst (v := 0) hx hb d_M_setFan_76 (by decide) ?_
      refine lv_lsub hx hb d_M_setFan_77 ?_
      refine lv_topl (fun v_6 ev_6 => ?_)
      refine lv_lstore (lv' := [(5, .long v_6), (3, .long v_4), (1, .long v_2), (0, .ref (ad 0))]) hx hb d_M_setFan_78 hl (by decide) rfl (fun ls hl => ?_)
      refine lv_aload_n hx hb d_M_setFan_80 rfl (lv_at hl 3 rfl) ?_
      refine lv_lload hx hb d_M_setFan_81 (lv_at hl 0 rfl) ?_
      refine lv_lconst (v := 0) hx hb d_M_setFan_83 (by decide) ?_
      refine lv_ldc2 (v := 1000) hx hb hown (hts _ tw_447) d_M_setFan_84 ?_
      refine wc_l (va_runS (As := [.long v_6, .long 0, .long 1000]) (rest := [.ref (ad 0)]) ⟨hx, hb, hml, hown, hts⟩ (c_M_cut l g _ ad _ v_6 0 1000 _) (cwS 3 hts (gd_S tw_511 tw_512 tw_28 tw_513) rfl rfl rfl (by decide +kernel) ⟨Nat.le_of_ble_eq_true rfl, Nat.le_of_ble_eq_true rfl⟩) (wp_S hK hN hP hJ) rfl rfl hl.1 rfl (lv_room (Nat.le_of_ble_eq_true rfl)) d_M_setFan_87 ⟨Nat.zero_le _, Nat.zero_le _⟩) hS (fun H locs hP hS => ?_)
      refine lv_l2i hx hb d_M_setFan_90 rfl ?_
      obtain ⟨x_7, ex_7⟩ : ∃ z9, z9 = xI' x_3 8 (Int64.toInt32 (m_cut v_6 0 1000)) := ⟨_, rfl⟩
      refine wr_put (E' := mE g ad L x_7) hx hb hts in_M ty_M ty_M_ok n_M hown hK hP hJ hS (0) (by omega) rfl rfl 18 (by decide) (hts _ tw_359) rfl rfl rfl (Nat.le_of_ble_eq_true rfl) (by rw [ex_7]; exact mU_air g ad L x_3 (Int64.toInt32 (m_cut v_6 0 1000))) d_M_setFan_91 (fun H locs hP hS => ?_)
      subst ev_2
      subst ex_3
      subst ev_4
      subst ev_6
      subst ex_7
      exact W.vret hx hb hr (fun t ht hW => ⟨⟨(), rfl, trivial, by dsimp only; rw [ht]; (try simp only [m_setFan, if_neg c_1, if_pos c_5, ite_self]); exact hP⟩, hS.F ht⟩) hS.2.2 d_M_setFan_94
    · skip
      refine lv_lconst (v := 1) hx hb d_M_setFan_72 (by decide) ?_
      refine lv_goto (tgt := 77) hx hb d_M_setFan_73 (by decide) ?_
      refine lv_lsub hx hb d_M_setFan_77 ?_
      refine lv_topl (fun v_8 ev_8 => ?_)
      refine lv_lstore (lv' := [(5, .long v_8), (3, .long v_4), (1, .long v_2), (0, .ref (ad 0))]) hx hb d_M_setFan_78 hl (by decide) rfl (fun ls hl => ?_)
      refine lv_aload_n hx hb d_M_setFan_80 rfl (lv_at hl 3 rfl) ?_
      refine lv_lload hx hb d_M_setFan_81 (lv_at hl 0 rfl) ?_
      refine lv_lconst (v := 0) hx hb d_M_setFan_83 (by decide) ?_
      refine lv_ldc2 (v := 1000) hx hb hown (hts _ tw_447) d_M_setFan_84 ?_
      refine wc_l (va_runS (As := [.long v_8, .long 0, .long 1000]) (rest := [.ref (ad 0)]) ⟨hx, hb, hml, hown, hts⟩ (c_M_cut l g _ ad _ v_8 0 1000 _) (cwS 3 hts (gd_S tw_511 tw_512 tw_28 tw_513) rfl rfl rfl (by decide +kernel) ⟨Nat.le_of_ble_eq_true rfl, Nat.le_of_ble_eq_true rfl⟩) (wp_S hK hN hP hJ) rfl rfl hl.1 rfl (lv_room (Nat.le_of_ble_eq_true rfl)) d_M_setFan_87 ⟨Nat.zero_le _, Nat.zero_le _⟩) hS (fun H locs hP hS => ?_)
      refine lv_l2i hx hb d_M_setFan_90 rfl ?_
      obtain ⟨x_9, ex_9⟩ : ∃ z9, z9 = xI' x_3 8 (Int64.toInt32 (m_cut v_8 0 1000)) := ⟨_, rfl⟩
      refine wr_put (E' := mE g ad L x_9) hx hb hts in_M ty_M ty_M_ok n_M hown hK hP hJ hS (0) (by omega) rfl rfl 18 (by decide) (hts _ tw_359) rfl rfl rfl (Nat.le_of_ble_eq_true rfl) (by rw [ex_9]; exact mU_air g ad L x_3 (Int64.toInt32 (m_cut v_8 0 1000))) d_M_setFan_91 (fun H locs hP hS => ?_)
      subst ev_2
      subst ex_3
      subst ev_4
      subst ev_8
      subst ex_9
      exact W.vret hx hb hr (fun t ht hW => ⟨⟨(), rfl, trivial, by dsimp only; rw [ht]; (try simp only [m_setFan, if_neg c_1, if_neg c_5, ite_self]); exact hP⟩, hS.F ht⟩) hS.2.2 d_M_setFan_94
  · skip
    exact W.vret hx hb hr (fun t ht hW => ⟨⟨(), rfl, trivial, by dsimp only; rw [ht]; (try simp only [m_setFan, if_pos c_1, ite_self]); exact hP⟩, hS.F ht⟩) hS.2.2 d_M_setFan_7
set_option maxHeartbeats 4000000 in
set_option maxRecDepth 100000 in
theorem c_M_loses (l : Launch) (g : wG) (ad : Nat → Nat) {L : Nat} (hL : 1 ≤ L ∧ L ≤ 6) (x : xS) (i : Nat) (hi : i < 6) : CtV l y_M_loses ws_M_loses ({ frames := 1, cells := 0, slots := 0, locals := 23 }) g 14 ad (mE g ad L x) (mE g ad L (m_loses x i)) [.ref (ad 0), .int (nI i)] := by
  intro sz
  refine Met.ofW (cc := b_M_loses) (maxL := 8) (ret := none) (by decide +kernel) rfl ?_
  intro p e s m args below meth c s₁ B hml hv
  obtain ⟨rfl, hsz, hP, hK, hN, hJ⟩ := hv
  have hx := B.exec
  have hb := B.bytes
  have hr := B.returns
  have hts0 := atoms_spec (ws := ws_M_loses) B.pre
  have hts : ∀ w ∈ tb, w.before _ s = true := fun w h => hts0 w (List.mem_cons_of_mem _ h)
  have hown : s.vm.findClass "HeapStepsModel" = some m.cls := findClass_of_methodNamed B.named
  have hlocks := B.notSynchronized
  subst hsz
  have hS : va_S (wA 14 ad s.heap.size) s.heap s.heap [] := va_S.rf
  have hl := lv_entry ([.ref (ad 0), .int (nI i)]) (n := 8) (Nat.le_of_ble_eq_true rfl)
  rw [lg_entry_eq]
  generalize (lg_sl ([.ref (ad 0), .int (nI i)]) ++ List.replicate (8 - (lg_sl ([.ref (ad 0), .int (nI i)])).length) Slot.unset).toArray = ls at hl ⊢
  have hl : lv_has ls 8 [(0, .ref (ad 0)), (1, .int (nI i))] := hl
  refine lv_aload_n hx hb d_M_loses_0 rfl (lv_at hl 0 rfl) ?_
  refine wr_get hx hb hts in_M hown hK hP (0) (by omega) rfl rfl 3 (by decide) (hts _ tw_344) rfl d_M_loses_1 ?_
  refine lv_iload_n hx hb d_M_loses_4 rfl (lv_at hl 1 rfl) ?_
  refine wr_laldv (v := xT x i 4) hx hb hK hP (3) 0 (by omega) rfl rfl i rfl (by omega) (by omega) rfl d_M_loses_5 ?_
  refine lv_aload_n hx hb d_M_loses_6 rfl (lv_at hl 0 rfl) ?_
  refine wr_get hx hb hts in_M hown hK hP (0) (by omega) rfl rfl 12 (by decide) (hts _ tw_353) rfl d_M_loses_7 ?_
  refine lv_i2l hx hb d_M_loses_10 rfl ?_
  refine wc_l (va_runS (As := [.long (xT x i 4), .long (Int32.toInt64 (xI x 1))]) (rest := []) ⟨hx, hb, hml, hown, hts⟩ (c_M_partOf l g _ ad _ (xT x i 4) (Int32.toInt64 (xI x 1)) _) (cwS 2 hts (gd_S tw_498 tw_499 tw_28 tw_500) rfl rfl rfl (by decide +kernel) ⟨Nat.le_of_ble_eq_true rfl, Nat.le_of_ble_eq_true rfl⟩) (wp_S hK hN hP hJ) rfl rfl hl.1 rfl (lv_room (Nat.le_of_ble_eq_true rfl)) d_M_loses_11 ⟨Nat.zero_le _, Nat.zero_le _⟩) hS (fun H locs hP hS => ?_)
  refine lv_topl (fun v_1 ev_1 => ?_)
  refine lv_lstore_n (lv' := [(2, .long v_1), (0, .ref (ad 0)), (1, .int (nI i))]) hx hb d_M_loses_14 rfl hl (by decide) rfl (fun ls hl => ?_)
  refine lv_aload_n hx hb d_M_loses_15 rfl (lv_at hl 1 rfl) ?_
  refine wr_get hx hb hts in_M hown hK hP (0) (by omega) rfl rfl 3 (by decide) (hts _ tw_344) rfl d_M_loses_16 ?_
  refine lv_iload_n hx hb d_M_loses_19 rfl (lv_at hl 2 rfl) ?_
  refine lv_dup2_11 hx hb d_M_loses_20 rfl rfl ?_
  refine wr_laldv (v := xT x i 4) hx hb hK hP (3) 0 (by omega) rfl rfl i rfl (by omega) (by omega) rfl d_M_loses_21 ?_
  refine lv_lload_n hx hb d_M_loses_22 rfl (lv_at hl 0 rfl) ?_
  refine lv_lsub hx hb d_M_loses_23 ?_
  obtain ⟨x_2, ex_2⟩ : ∃ z9, z9 = xT' x i 4 ((xT x i 4) - v_1) := ⟨_, rfl⟩
  refine wr_last (E' := mE g ad L x_2) hx hb hK hP hJ hS (3) 0 (by omega) rfl rfl i rfl (by omega) (by omega) (by rw [ex_2]; exact mU_HE g ad L x i ((xT x i 4) - v_1)) d_M_loses_24 (fun H locs hP hS => ?_)
  refine lv_aload_n hx hb d_M_loses_25 rfl (lv_at hl 1 rfl) ?_
  refine wr_get hx hb hts in_M hown hK hP (0) (by omega) rfl rfl 21 (by decide) (hts _ tw_362) rfl d_M_loses_26 ?_
  refine lv_iconst (v := 5) hx hb d_M_loses_29 (by decide) ?_
  refine lv_dup2_11 hx hb d_M_loses_30 rfl rfl ?_
  refine wr_laldv (v := xO x_2 0 5) hx hb hK hP (11) 0 (by omega) rfl rfl 5 (by decide) (by omega) (by omega) rfl d_M_loses_31 ?_
  refine lv_lload_n hx hb d_M_loses_32 rfl (lv_at hl 0 rfl) ?_
  refine lv_ladd hx hb d_M_loses_33 ?_
  obtain ⟨x_3, ex_3⟩ : ∃ z9, z9 = xO' x_2 0 5 ((xO x_2 0 5) + v_1) := ⟨_, rfl⟩
  refine wr_last (E' := mE g ad L x_3) hx hb hK hP hJ hS (11) 0 (by omega) rfl rfl 5 (by decide) (by omega) (by omega) (by rw [ex_3]; exact mU_GO g ad L x_2 5 ((xO x_2 0 5) + v_1)) d_M_loses_34 (fun H locs hP hS => ?_)
  refine lv_aload_n hx hb d_M_loses_35 rfl (lv_at hl 1 rfl) ?_
  refine wr_get hx hb hts in_M hown hK hP (0) (by omega) rfl rfl 2 (by decide) (hts _ tw_343) rfl d_M_loses_36 ?_
  refine lv_iload_n hx hb d_M_loses_39 rfl (lv_at hl 2 rfl) ?_
  refine wr_laldv (v := xT x_3 i 3) hx hb hK hP (2) 0 (by omega) rfl rfl i rfl (by omega) (by omega) rfl d_M_loses_40 ?_
  refine lv_aload_n hx hb d_M_loses_41 rfl (lv_at hl 1 rfl) ?_
  refine wr_get hx hb hts in_M hown hK hP (0) (by omega) rfl rfl 18 (by decide) (hts _ tw_359) rfl d_M_loses_42 ?_
  refine lv_i2l hx hb d_M_loses_45 rfl ?_
  refine wc_l (va_runS (As := [.long (xT x_3 i 3), .long (Int32.toInt64 (xI x_3 8))]) (rest := []) ⟨hx, hb, hml, hown, hts⟩ (c_M_partOf l g _ ad _ (xT x_3 i 3) (Int32.toInt64 (xI x_3 8)) _) (cwS 2 hts (gd_S tw_498 tw_499 tw_28 tw_500) rfl rfl rfl (by decide +kernel) ⟨Nat.le_of_ble_eq_true rfl, Nat.le_of_ble_eq_true rfl⟩) (wp_S hK hN hP hJ) rfl rfl hl.1 rfl (lv_room (Nat.le_of_ble_eq_true rfl)) d_M_loses_46 ⟨Nat.zero_le _, Nat.zero_le _⟩) hS (fun H locs hP hS => ?_)
  refine lv_topl (fun v_4 ev_4 => ?_)
  refine lv_lstore (lv' := [(4, .long v_4), (2, .long v_1), (0, .ref (ad 0)), (1, .int (nI i))]) hx hb d_M_loses_49 hl (by decide) rfl (fun ls hl => ?_)
  refine lv_aload_n hx hb d_M_loses_51 rfl (lv_at hl 2 rfl) ?_
  refine wr_get hx hb hts in_M hown hK hP (0) (by omega) rfl rfl 2 (by decide) (hts _ tw_343) rfl d_M_loses_52 ?_
  refine lv_iload_n hx hb d_M_loses_55 rfl (lv_at hl 3 rfl) ?_
  refine lv_dup2_11 hx hb d_M_loses_56 rfl rfl ?_
  refine wr_laldv (v := xT x_3 i 3) hx hb hK hP (2) 0 (by omega) rfl rfl i rfl (by omega) (by omega) rfl d_M_loses_57 ?_
  refine lv_lload hx hb d_M_loses_58 (lv_at hl 0 rfl) ?_
  refine lv_lsub hx hb d_M_loses_60 ?_
  obtain ⟨x_5, ex_5⟩ : ∃ z9, z9 = xT' x_3 i 3 ((xT x_3 i 3) - v_4) := ⟨_, rfl⟩
  refine wr_last (E' := mE g ad L x_5) hx hb hK hP hJ hS (2) 0 (by omega) rfl rfl i rfl (by omega) (by omega) (by rw [ex_5]; exact mU_WA g ad L x_3 i ((xT x_3 i 3) - v_4)) d_M_loses_61 (fun H locs hP hS => ?_)
  refine lv_aload_n hx hb d_M_loses_62 rfl (lv_at hl 2 rfl) ?_
  refine wr_get hx hb hts in_M hown hK hP (0) (by omega) rfl rfl 21 (by decide) (hts _ tw_362) rfl d_M_loses_63 ?_
  refine lv_iconst (v := 1) hx hb d_M_loses_66 (by decide) ?_
  refine lv_dup2_11 hx hb d_M_loses_67 rfl rfl ?_
  refine wr_laldv (v := xO x_5 0 1) hx hb hK hP (11) 0 (by omega) rfl rfl 1 (by decide) (by omega) (by omega) rfl d_M_loses_68 ?_
  refine lv_lload hx hb d_M_loses_69 (lv_at hl 0 rfl) ?_
  refine lv_ladd hx hb d_M_loses_71 ?_
  obtain ⟨x_6, ex_6⟩ : ∃ z9, z9 = xO' x_5 0 1 ((xO x_5 0 1) + v_4) := ⟨_, rfl⟩
  refine wr_last (E' := mE g ad L x_6) hx hb hK hP hJ hS (11) 0 (by omega) rfl rfl 1 (by decide) (by omega) (by omega) (by rw [ex_6]; exact mU_GO g ad L x_5 1 ((xO x_5 0 1) + v_4)) d_M_loses_72 (fun H locs hP hS => ?_)
  refine lv_ldc2 (v := 600) hx hb hown (hts _ tw_505) d_M_loses_73 ?_
  refine lv_lload hx hb d_M_loses_76 (lv_at hl 0 rfl) ?_
  refine lv_lmul hx hb d_M_loses_78 ?_
  refine lv_aload_n hx hb d_M_loses_79 rfl (lv_at hl 2 rfl) ?_
  refine wr_get hx hb hts in_M hown hK hP (0) (by omega) rfl rfl 3 (by decide) (hts _ tw_344) rfl d_M_loses_80 ?_
  refine lv_iload_n hx hb d_M_loses_83 rfl (lv_at hl 3 rfl) ?_
  refine wr_laldv (v := xT x_6 i 4) hx hb hK hP (3) 0 (by omega) rfl rfl i rfl (by omega) (by omega) rfl d_M_loses_84 ?_
  refine W.lcmp hx hb d_M_loses_85 ?_
  refine lv_if_ge (tgt := 98) hx hb d_M_loses_86 (by decide) (fun c_7 => ?_) (fun c_7 => ?_)
  · skip
    refine lv_aload_n hx hb d_M_loses_98 rfl (lv_at hl 2 rfl) ?_
    refine wr_get hx hb hts in_M hown hK hP (0) (by omega) rfl rfl 3 (by decide) (hts _ tw_344) rfl d_M_loses_99 ?_
    refine lv_iload_n hx hb d_M_loses_102 rfl (lv_at hl 3 rfl) ?_
    refine wr_laldv (v := xT x_6 i 4) hx hb hK hP (3) 0 (by omega) rfl rfl i rfl (by omega) (by omega) rfl d_M_loses_103 ?_
    refine lv_topl (fun v_8 ev_8 => ?_)
    refine lv_lstore (lv' := [(6, .long v_8), (4, .long v_4), (2, .long v_1), (0, .ref (ad 0)), (1, .int (nI i))]) hx hb d_M_loses_104 hl (by decide) rfl (fun ls hl => ?_)
    refine lv_aload_n hx hb d_M_loses_106 rfl (lv_at hl 3 rfl) ?_
    refine wr_get hx hb hts in_M hown hK hP (0) (by omega) rfl rfl 3 (by decide) (hts _ tw_344) rfl d_M_loses_107 ?_
    refine lv_iload_n hx hb d_M_loses_110 rfl (lv_at hl 4 rfl) ?_
    refine lv_dup2_11 hx hb d_M_loses_111 rfl rfl ?_
    refine wr_laldv (v := xT x_6 i 4) hx hb hK hP (3) 0 (by omega) rfl rfl i rfl (by omega) (by omega) rfl d_M_loses_112 ?_
    refine lv_lload hx hb d_M_loses_113 (lv_at hl 0 rfl) ?_
    refine lv_lsub hx hb d_M_loses_115 ?_
    obtain ⟨x_9, ex_9⟩ : ∃ z9, z9 = xT' x_6 i 4 ((xT x_6 i 4) - v_8) := ⟨_, rfl⟩
    refine wr_last (E' := mE g ad L x_9) hx hb hK hP hJ hS (3) 0 (by omega) rfl rfl i rfl (by omega) (by omega) (by rw [ex_9]; exact mU_HE g ad L x_6 i ((xT x_6 i 4) - v_8)) d_M_loses_116 (fun H locs hP hS => ?_)
    refine lv_aload_n hx hb d_M_loses_117 rfl (lv_at hl 3 rfl) ?_
    refine wr_get hx hb hts in_M hown hK hP (0) (by omega) rfl rfl 21 (by decide) (hts _ tw_362) rfl d_M_loses_118 ?_
    refine lv_bipush (v := 6) hx hb d_M_loses_121 (by decide) ?_
    refine lv_dup2_11 hx hb d_M_loses_123 rfl rfl ?_
    refine wr_laldv (v := xO x_9 0 6) hx hb hK hP (11) 0 (by omega) rfl rfl 6 (by decide) (by omega) (by omega) rfl d_M_loses_124 ?_
    refine lv_lload hx hb d_M_loses_125 (lv_at hl 0 rfl) ?_
    refine lv_ladd hx hb d_M_loses_127 ?_
    obtain ⟨x_10, ex_10⟩ : ∃ z9, z9 = xO' x_9 0 6 ((xO x_9 0 6) + v_8) := ⟨_, rfl⟩
    refine wr_last (E' := mE g ad L x_10) hx hb hK hP hJ hS (11) 0 (by omega) rfl rfl 6 (by decide) (by omega) (by omega) (by rw [ex_10]; exact mU_GO g ad L x_9 6 ((xO x_9 0 6) + v_8)) d_M_loses_128 (fun H locs hP hS => ?_)
    subst ev_1
    subst ex_2
    subst ex_3
    subst ev_4
    subst ex_5
    subst ex_6
    subst ev_8
    subst ex_9
    subst ex_10
    exact W.vret hx hb hr (fun t ht hW => ⟨⟨(), rfl, trivial, by dsimp only; rw [ht]; (try simp only [m_loses, if_pos c_7, ite_self]); exact hP⟩, hS.F ht⟩) hS.2.2 d_M_loses_129
  · skip
    refine lv_ldc2 (v := 600) hx hb hown (hts _ tw_505) d_M_loses_89 ?_
    refine lv_lload hx hb d_M_loses_92 (lv_at hl 0 rfl) ?_
    refine lv_lmul hx hb d_M_loses_94 ?_
    refine lv_goto (tgt := 104) hx hb d_M_loses_95 (by decide) ?_
    refine lv_topl (fun v_11 ev_11 => ?_)
    refine lv_lstore (lv' := [(6, .long v_11), (4, .long v_4), (2, .long v_1), (0, .ref (ad 0)), (1, .int (nI i))]) hx hb d_M_loses_104 hl (by decide) rfl (fun ls hl => ?_)
    refine lv_aload_n hx hb d_M_loses_106 rfl (lv_at hl 3 rfl) ?_
    refine wr_get hx hb hts in_M hown hK hP (0) (by omega) rfl rfl 3 (by decide) (hts _ tw_344) rfl d_M_loses_107 ?_
    refine lv_iload_n hx hb d_M_loses_110 rfl (lv_at hl 4 rfl) ?_
    refine lv_dup2_11 hx hb d_M_loses_111 rfl rfl ?_
    refine wr_laldv (v := xT x_6 i 4) hx hb hK hP (3) 0 (by omega) rfl rfl i rfl (by omega) (by omega) rfl d_M_loses_112 ?_
    refine lv_lload hx hb d_M_loses_113 (lv_at hl 0 rfl) ?_
    refine lv_lsub hx hb d_M_loses_115 ?_
    obtain ⟨x_12, ex_12⟩ : ∃ z9, z9 = xT' x_6 i 4 ((xT x_6 i 4) - v_11) := ⟨_, rfl⟩
    refine wr_last (E' := mE g ad L x_12) hx hb hK hP hJ hS (3) 0 (by omega) rfl rfl i rfl (by omega) (by omega) (by rw [ex_12]; exact mU_HE g ad L x_6 i ((xT x_6 i 4) - v_11)) d_M_loses_116 (fun H locs hP hS => ?_)
    refine lv_aload_n hx hb d_M_loses_117 rfl (lv_at hl 3 rfl) ?_
    refine wr_get hx hb hts in_M hown hK hP (0) (by omega) rfl rfl 21 (by decide) (hts _ tw_362) rfl d_M_loses_118 ?_
    refine lv_bipush (v := 6) hx hb d_M_loses_121 (by decide) ?_
    refine lv_dup2_11 hx hb d_M_loses_123 rfl rfl ?_
    refine wr_laldv (v := xO x_12 0 6) hx hb hK hP (11) 0 (by omega) rfl rfl 6 (by decide) (by omega) (by omega) rfl d_M_loses_124 ?_
    refine lv_lload hx hb d_M_loses_125 (lv_at hl 0 rfl) ?_
    refine lv_ladd hx hb d_M_loses_127 ?_
    obtain ⟨x_13, ex_13⟩ : ∃ z9, z9 = xO' x_12 0 6 ((xO x_12 0 6) + v_11) := ⟨_, rfl⟩
    refine wr_last (E' := mE g ad L x_13) hx hb hK hP hJ hS (11) 0 (by omega) rfl rfl 6 (by decide) (by omega) (by omega) (by rw [ex_13]; exact mU_GO g ad L x_12 6 ((xO x_12 0 6) + v_11)) d_M_loses_128 (fun H locs hP hS => ?_)
    subst ev_1
    subst ex_2
    subst ex_3
    subst ev_4
    subst ex_5
    subst ex_6
    subst ev_11
    subst ex_12
    subst ex_13
    exact W.vret hx hb hr (fun t ht hW => ⟨⟨(), rfl, trivial, by dsimp only; rw [ht]; (try simp only [m_loses, if_neg c_7, ite_self]); exact hP⟩, hS.F ht⟩) hS.2.2 d_M_loses_129
end

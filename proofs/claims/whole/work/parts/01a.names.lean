-- ===== PART A: goes FIRST, ahead of the names: the tables' words, and 'selects' of the private methods out of them =====
/-- a private method of a class that the tables say can be made, by its rows of tables_1 -/
def lw_okq (q : MethodName × Nat) : Prop := (q.1.cls ≠ "java/lang/invoke/MethodHandle" ∧ q.1.cls ≠ "java/lang/invoke/VarHandle") ∧ Cond.instantiable q.1.cls q.2 ∈ tables_1 ∧ Cond.privateMethod q.1 ∈ tables_1 ∧ Cond.instanceMethod q.1 ∈ tables_1
theorem lw_p0 : lw_okq (⟨"HeapSteps", "layerAt", "(I)LHeapSteps$Layer;"⟩, 10) := ⟨⟨by decide +kernel, by decide +kernel⟩, List.mem_of_getElem? (i := 8) (by decide +kernel), List.mem_of_getElem? (i := 133) (by decide +kernel), List.mem_of_getElem? (i := 134) (by decide +kernel)⟩
theorem lw_p1 : lw_okq (⟨"HeapSteps", "bring", "(LHeapSteps$Layer;IIJ)Z"⟩, 10) := ⟨⟨by decide +kernel, by decide +kernel⟩, List.mem_of_getElem? (i := 8) (by decide +kernel), List.mem_of_getElem? (i := 138) (by decide +kernel), List.mem_of_getElem? (i := 139) (by decide +kernel)⟩
theorem lw_p2 : lw_okq (⟨"HeapSteps", "greatestWarmth", "()J"⟩, 10) := ⟨⟨by decide +kernel, by decide +kernel⟩, List.mem_of_getElem? (i := 8) (by decide +kernel), List.mem_of_getElem? (i := 193) (by decide +kernel), List.mem_of_getElem? (i := 194) (by decide +kernel)⟩
theorem lw_p3 : lw_okq (⟨"HeapSteps", "passMinute", "()V"⟩, 10) := ⟨⟨by decide +kernel, by decide +kernel⟩, List.mem_of_getElem? (i := 8) (by decide +kernel), List.mem_of_getElem? (i := 208) (by decide +kernel), List.mem_of_getElem? (i := 209) (by decide +kernel)⟩
theorem lw_p4 : lw_okq (⟨"HeapSteps", "pour", "(JI)V"⟩, 10) := ⟨⟨by decide +kernel, by decide +kernel⟩, List.mem_of_getElem? (i := 8) (by decide +kernel), List.mem_of_getElem? (i := 212) (by decide +kernel), List.mem_of_getElem? (i := 213) (by decide +kernel)⟩
theorem lw_p5 : lw_okq (⟨"HeapSteps", "breakParts", "(LHeapSteps$Layer;)V"⟩, 10) := ⟨⟨by decide +kernel, by decide +kernel⟩, List.mem_of_getElem? (i := 8) (by decide +kernel), List.mem_of_getElem? (i := 216) (by decide +kernel), List.mem_of_getElem? (i := 217) (by decide +kernel)⟩
theorem lw_p6 : lw_okq (⟨"HeapSteps", "breakPart", "(LHeapSteps$Layer;IJ)V"⟩, 10) := ⟨⟨by decide +kernel, by decide +kernel⟩, List.mem_of_getElem? (i := 8) (by decide +kernel), List.mem_of_getElem? (i := 220) (by decide +kernel), List.mem_of_getElem? (i := 221) (by decide +kernel)⟩
theorem lw_p7 : lw_okq (⟨"HeapSteps", "loseHeat", "(LHeapSteps$Layer;)V"⟩, 10) := ⟨⟨by decide +kernel, by decide +kernel⟩, List.mem_of_getElem? (i := 8) (by decide +kernel), List.mem_of_getElem? (i := 233) (by decide +kernel), List.mem_of_getElem? (i := 234) (by decide +kernel)⟩
theorem lw_p8 : lw_okq (⟨"HeapSteps", "driveOff", "(LHeapSteps$Layer;)V"⟩, 10) := ⟨⟨by decide +kernel, by decide +kernel⟩, List.mem_of_getElem? (i := 8) (by decide +kernel), List.mem_of_getElem? (i := 237) (by decide +kernel), List.mem_of_getElem? (i := 238) (by decide +kernel)⟩
theorem lw_p9 : lw_okq (⟨"HeapSteps", "shareOut", "(I)V"⟩, 10) := ⟨⟨by decide +kernel, by decide +kernel⟩, List.mem_of_getElem? (i := 8) (by decide +kernel), List.mem_of_getElem? (i := 284) (by decide +kernel), List.mem_of_getElem? (i := 285) (by decide +kernel)⟩
theorem lw_p10 : lw_okq (⟨"HeapSteps", "inAllLayers", "(I)J"⟩, 10) := ⟨⟨by decide +kernel, by decide +kernel⟩, List.mem_of_getElem? (i := 8) (by decide +kernel), List.mem_of_getElem? (i := 288) (by decide +kernel), List.mem_of_getElem? (i := 289) (by decide +kernel)⟩
theorem lw_p11 : lw_okq (⟨"HeapSteps", "putInLessThere", "(I)J"⟩, 10) := ⟨⟨by decide +kernel, by decide +kernel⟩, List.mem_of_getElem? (i := 8) (by decide +kernel), List.mem_of_getElem? (i := 300) (by decide +kernel), List.mem_of_getElem? (i := 301) (by decide +kernel)⟩
theorem lw_p12 : lw_okq (⟨"HeapStepsModel", "isLayer", "(I)Z"⟩, 24) := ⟨⟨by decide +kernel, by decide +kernel⟩, List.mem_of_getElem? (i := 312) (by decide +kernel), List.mem_of_getElem? (i := 396) (by decide +kernel), List.mem_of_getElem? (i := 397) (by decide +kernel)⟩
theorem lw_p13 : lw_okq (⟨"HeapStepsModel", "warmest", "()J"⟩, 24) := ⟨⟨by decide +kernel, by decide +kernel⟩, List.mem_of_getElem? (i := 312) (by decide +kernel), List.mem_of_getElem? (i := 452) (by decide +kernel), List.mem_of_getElem? (i := 453) (by decide +kernel)⟩
theorem lw_p14 : lw_okq (⟨"HeapStepsModel", "warmthOf", "(I)J"⟩, 24) := ⟨⟨by decide +kernel, by decide +kernel⟩, List.mem_of_getElem? (i := 312) (by decide +kernel), List.mem_of_getElem? (i := 456) (by decide +kernel), List.mem_of_getElem? (i := 457) (by decide +kernel)⟩
theorem lw_p15 : lw_okq (⟨"HeapStepsModel", "massOf", "(I)J"⟩, 24) := ⟨⟨by decide +kernel, by decide +kernel⟩, List.mem_of_getElem? (i := 312) (by decide +kernel), List.mem_of_getElem? (i := 460) (by decide +kernel), List.mem_of_getElem? (i := 461) (by decide +kernel)⟩
def lw_privs_1 : List (MethodName × Nat) := [(⟨"HeapSteps", "layerAt", "(I)LHeapSteps$Layer;"⟩, 10), (⟨"HeapSteps", "bring", "(LHeapSteps$Layer;IIJ)Z"⟩, 10), (⟨"HeapSteps", "greatestWarmth", "()J"⟩, 10), (⟨"HeapSteps", "passMinute", "()V"⟩, 10), (⟨"HeapSteps", "pour", "(JI)V"⟩, 10), (⟨"HeapSteps", "breakParts", "(LHeapSteps$Layer;)V"⟩, 10), (⟨"HeapSteps", "breakPart", "(LHeapSteps$Layer;IJ)V"⟩, 10), (⟨"HeapSteps", "loseHeat", "(LHeapSteps$Layer;)V"⟩, 10), (⟨"HeapSteps", "driveOff", "(LHeapSteps$Layer;)V"⟩, 10), (⟨"HeapSteps", "shareOut", "(I)V"⟩, 10), (⟨"HeapSteps", "inAllLayers", "(I)J"⟩, 10), (⟨"HeapSteps", "putInLessThere", "(I)J"⟩, 10), (⟨"HeapStepsModel", "isLayer", "(I)Z"⟩, 24), (⟨"HeapStepsModel", "warmest", "()J"⟩, 24), (⟨"HeapStepsModel", "warmthOf", "(I)J"⟩, 24), (⟨"HeapStepsModel", "massOf", "(I)J"⟩, 24)]
theorem lw_r1 : ∀ q ∈ lw_privs_1, lw_okq q := List.forall_mem_cons.mpr ⟨lw_p0, List.forall_mem_cons.mpr ⟨lw_p1, List.forall_mem_cons.mpr ⟨lw_p2, List.forall_mem_cons.mpr ⟨lw_p3, List.forall_mem_cons.mpr ⟨lw_p4, List.forall_mem_cons.mpr ⟨lw_p5, List.forall_mem_cons.mpr ⟨lw_p6, List.forall_mem_cons.mpr ⟨lw_p7, List.forall_mem_cons.mpr ⟨lw_p8, List.forall_mem_cons.mpr ⟨lw_p9, List.forall_mem_cons.mpr ⟨lw_p10, List.forall_mem_cons.mpr ⟨lw_p11, List.forall_mem_cons.mpr ⟨lw_p12, List.forall_mem_cons.mpr ⟨lw_p13, List.forall_mem_cons.mpr ⟨lw_p14, List.forall_mem_cons.mpr ⟨lw_p15, fun _ h => absurd h List.not_mem_nil⟩⟩⟩⟩⟩⟩⟩⟩⟩⟩⟩⟩⟩⟩⟩⟩
theorem lw_p16 : lw_okq (⟨"HeapStepsModel", "minute", "()V"⟩, 24) := ⟨⟨by decide +kernel, by decide +kernel⟩, List.mem_of_getElem? (i := 312) (by decide +kernel), List.mem_of_getElem? (i := 464) (by decide +kernel), List.mem_of_getElem? (i := 465) (by decide +kernel)⟩
theorem lw_p17 : lw_okq (⟨"HeapStepsModel", "breaks", "(I)V"⟩, 24) := ⟨⟨by decide +kernel, by decide +kernel⟩, List.mem_of_getElem? (i := 312) (by decide +kernel), List.mem_of_getElem? (i := 468) (by decide +kernel), List.mem_of_getElem? (i := 469) (by decide +kernel)⟩
theorem lw_p18 : lw_okq (⟨"HeapStepsModel", "rateOf", "(IJ)J"⟩, 24) := ⟨⟨by decide +kernel, by decide +kernel⟩, List.mem_of_getElem? (i := 312) (by decide +kernel), List.mem_of_getElem? (i := 472) (by decide +kernel), List.mem_of_getElem? (i := 473) (by decide +kernel)⟩
theorem lw_p19 : lw_okq (⟨"HeapStepsModel", "loses", "(I)V"⟩, 24) := ⟨⟨by decide +kernel, by decide +kernel⟩, List.mem_of_getElem? (i := 312) (by decide +kernel), List.mem_of_getElem? (i := 479) (by decide +kernel), List.mem_of_getElem? (i := 480) (by decide +kernel)⟩
theorem lw_p20 : lw_okq (⟨"HeapStepsModel", "setFan", "()V"⟩, 24) := ⟨⟨by decide +kernel, by decide +kernel⟩, List.mem_of_getElem? (i := 312) (by decide +kernel), List.mem_of_getElem? (i := 484) (by decide +kernel), List.mem_of_getElem? (i := 485) (by decide +kernel)⟩
theorem lw_p21 : lw_okq (⟨"HeapStepsModel", "shareOf", "(JI)J"⟩, 24) := ⟨⟨by decide +kernel, by decide +kernel⟩, List.mem_of_getElem? (i := 312) (by decide +kernel), List.mem_of_getElem? (i := 513) (by decide +kernel), List.mem_of_getElem? (i := 514) (by decide +kernel)⟩
theorem lw_p22 : lw_okq (⟨"HeapStepsModel", "there", "(I)J"⟩, 24) := ⟨⟨by decide +kernel, by decide +kernel⟩, List.mem_of_getElem? (i := 312) (by decide +kernel), List.mem_of_getElem? (i := 527) (by decide +kernel), List.mem_of_getElem? (i := 528) (by decide +kernel)⟩
def lw_privs_2 : List (MethodName × Nat) := [(⟨"HeapStepsModel", "minute", "()V"⟩, 24), (⟨"HeapStepsModel", "breaks", "(I)V"⟩, 24), (⟨"HeapStepsModel", "rateOf", "(IJ)J"⟩, 24), (⟨"HeapStepsModel", "loses", "(I)V"⟩, 24), (⟨"HeapStepsModel", "setFan", "()V"⟩, 24), (⟨"HeapStepsModel", "shareOf", "(JI)J"⟩, 24), (⟨"HeapStepsModel", "there", "(I)J"⟩, 24)]
theorem lw_r2 : ∀ q ∈ lw_privs_2, lw_okq q := List.forall_mem_cons.mpr ⟨lw_p16, List.forall_mem_cons.mpr ⟨lw_p17, List.forall_mem_cons.mpr ⟨lw_p18, List.forall_mem_cons.mpr ⟨lw_p19, List.forall_mem_cons.mpr ⟨lw_p20, List.forall_mem_cons.mpr ⟨lw_p21, List.forall_mem_cons.mpr ⟨lw_p22, fun _ h => absurd h List.not_mem_nil⟩⟩⟩⟩⟩⟩⟩
def lw_privs : List (MethodName × Nat) := lw_privs_1 ++ (lw_privs_2)
def lw_tbl : List Cond := k2_sels lw_privs ++ tables_1
theorem lw_privs_ok : ∀ q ∈ lw_privs, lw_okq q := by
  show ∀ q ∈ lw_privs_1 ++ (lw_privs_2), lw_okq q
  exact List.forall_mem_append.mpr ⟨lw_r1, lw_r2⟩

-- ===== end of PART A; names =====
def T_X : u_T := fun k => match k with
  | 0 => ("HeapSteps", "layers", "[LHeapSteps$Layer;", true)
  | 1 => ("HeapSteps", "kinds", "[LHeapSteps$Kind;", true)
  | 2 => ("HeapSteps", "blower", "LHeapSteps$Fan;", true)
  | 3 => ("HeapSteps", "sums", "[J", true)
  | 4 => ("HeapSteps", "putIn", "[J", true)
  | 5 => ("HeapSteps", "takenAway", "[J", true)
  | 6 => ("HeapSteps", "rainGrams", "I", false)
  | 7 => ("HeapSteps", "lossMillionths", "I", false)
  | 8 => ("HeapSteps", "limitWarmth", "I", false)
  | _ => ("HeapSteps", "turns", "I", false)
def ty_X : Nat → FieldType := fun k => match k with
  | 0 => .array (.object "HeapSteps$Layer")
  | 1 => .array (.object "HeapSteps$Kind")
  | 2 => .object "HeapSteps$Fan"
  | 3 => .array .long
  | 4 => .array .long
  | 5 => .array .long
  | 6 => .int
  | 7 => .int
  | 8 => .int
  | _ => .int
def T_F : u_T := fun k => match k with
  | 0 => ("HeapSteps$Fan", "told", "Z", false)
  | 1 => ("HeapSteps$Fan", "target", "I", false)
  | 2 => ("HeapSteps$Fan", "p", "I", false)
  | 3 => ("HeapSteps$Fan", "i", "I", false)
  | 4 => ("HeapSteps$Fan", "sum", "J", false)
  | _ => ("HeapSteps$Fan", "setting", "I", false)
def ty_F : Nat → FieldType := fun k => match k with
  | 0 => .boolean
  | 1 => .int
  | 2 => .int
  | 3 => .int
  | 4 => .long
  | _ => .int
def T_K : u_T := fun k => match k with
  | 0 => ("HeapSteps$Kind", "fromWarmth", "[I", true)
  | 1 => ("HeapSteps$Kind", "millionths", "[I", true)
  | 2 => ("HeapSteps$Kind", "rows", "I", false)
  | 3 => ("HeapSteps$Kind", "heatYield", "I", false)
  | _ => ("HeapSteps$Kind", "waterYield", "I", false)
def ty_K : Nat → FieldType := fun k => match k with
  | 0 => .array .int
  | 1 => .array .int
  | 2 => .int
  | 3 => .int
  | _ => .int
def T_Y : u_T := fun k => match k with
  | 0 => ("HeapSteps$Layer", "stock", "[J", true)
  | 1 => ("HeapSteps$Layer", "dry", "I", false)
  | _ => ("HeapSteps$Layer", "holds", "I", false)
def ty_Y : Nat → FieldType := fun k => match k with
  | 0 => .array .long
  | 1 => .int
  | _ => .int
def T_M : u_T := fun k => match k with
  | 0 => ("HeapStepsModel", "layers", "I", true)
  | 1 => ("HeapStepsModel", "parts", "[J", true)
  | 2 => ("HeapStepsModel", "waters", "[J", true)
  | 3 => ("HeapStepsModel", "heats", "[J", true)
  | 4 => ("HeapStepsModel", "dry", "[J", true)
  | 5 => ("HeapStepsModel", "holds", "[J", true)
  | 6 => ("HeapStepsModel", "rowCounts", "[I", true)
  | 7 => ("HeapStepsModel", "rowWarmths", "[I", true)
  | 8 => ("HeapStepsModel", "rowRates", "[I", true)
  | 9 => ("HeapStepsModel", "heatYields", "[I", true)
  | 10 => ("HeapStepsModel", "waterYields", "[I", true)
  | 11 => ("HeapStepsModel", "rain", "I", false)
  | 12 => ("HeapStepsModel", "loss", "I", false)
  | 13 => ("HeapStepsModel", "hasFan", "Z", false)
  | 14 => ("HeapStepsModel", "target", "I", false)
  | 15 => ("HeapStepsModel", "byNow", "I", false)
  | 16 => ("HeapStepsModel", "bySum", "I", false)
  | 17 => ("HeapStepsModel", "sum", "J", false)
  | 18 => ("HeapStepsModel", "air", "I", false)
  | 19 => ("HeapStepsModel", "limit", "J", false)
  | 20 => ("HeapStepsModel", "turns", "I", false)
  | 21 => ("HeapStepsModel", "gone", "[J", true)
  | 22 => ("HeapStepsModel", "put", "[J", true)
  | _ => ("HeapStepsModel", "taken", "[J", true)
def ty_M : Nat → FieldType := fun k => match k with
  | 0 => .int
  | 1 => .array .long
  | 2 => .array .long
  | 3 => .array .long
  | 4 => .array .long
  | 5 => .array .long
  | 6 => .array .int
  | 7 => .array .int
  | 8 => .array .int
  | 9 => .array .int
  | 10 => .array .int
  | 11 => .int
  | 12 => .int
  | 13 => .boolean
  | 14 => .int
  | 15 => .int
  | 16 => .int
  | 17 => .long
  | 18 => .int
  | 19 => .long
  | 20 => .int
  | 21 => .array .long
  | 22 => .array .long
  | _ => .array .long
abbrev vwCl : List vw_C := [("HeapSteps", T_X, 10), ("HeapSteps$Fan", T_F, 6), ("HeapSteps$Kind", T_K, 5), ("HeapSteps$Layer", T_Y, 3), ("HeapStepsModel", T_M, 24)]
theorem n_X : ∀ a, a < 10 → ∀ b, b < 10 → a ≠ b → (T_X a).2.1 ≠ (T_X b).2.1 := by decide +kernel
theorem ty_X_ok : ∀ k, k < 10 → parseFieldDescriptor (T_X k).2.2.1 = some (ty_X k) := by decide +kernel
theorem n_F : ∀ a, a < 6 → ∀ b, b < 6 → a ≠ b → (T_F a).2.1 ≠ (T_F b).2.1 := by decide +kernel
theorem ty_F_ok : ∀ k, k < 6 → parseFieldDescriptor (T_F k).2.2.1 = some (ty_F k) := by decide +kernel
theorem n_K : ∀ a, a < 5 → ∀ b, b < 5 → a ≠ b → (T_K a).2.1 ≠ (T_K b).2.1 := by decide +kernel
theorem ty_K_ok : ∀ k, k < 5 → parseFieldDescriptor (T_K k).2.2.1 = some (ty_K k) := by decide +kernel
theorem n_Y : ∀ a, a < 3 → ∀ b, b < 3 → a ≠ b → (T_Y a).2.1 ≠ (T_Y b).2.1 := by decide +kernel
theorem ty_Y_ok : ∀ k, k < 3 → parseFieldDescriptor (T_Y k).2.2.1 = some (ty_Y k) := by decide +kernel
theorem n_M : ∀ a, a < 24 → ∀ b, b < 24 → a ≠ b → (T_M a).2.1 ≠ (T_M b).2.1 := by decide +kernel
theorem ty_M_ok : ∀ k, k < 24 → parseFieldDescriptor (T_M k).2.2.1 = some (ty_M k) := by decide +kernel
/-- the tables' words that a callee may be given -/
def tb : List Cond := lw_tbl.filter goodWord
theorem tb_lw : ∀ w ∈ tb, w ∈ lw_tbl := fun _ h => (List.mem_filter.mp h).1
theorem tw_0 : (Cond.selects "HeapSteps" (⟨"HeapSteps", "layerAt", "(I)LHeapSteps$Layer;"⟩ : MethodName) (⟨"HeapSteps", "layerAt", "(I)LHeapSteps$Layer;"⟩ : MethodName)) ∈ tb := List.mem_filter.mpr ⟨List.mem_of_getElem? (i := 0) (by decide +kernel), by decide +kernel⟩
theorem tw_1 : (Cond.selects "HeapSteps" (⟨"HeapSteps", "bring", "(LHeapSteps$Layer;IIJ)Z"⟩ : MethodName) (⟨"HeapSteps", "bring", "(LHeapSteps$Layer;IIJ)Z"⟩ : MethodName)) ∈ tb := List.mem_filter.mpr ⟨List.mem_of_getElem? (i := 1) (by decide +kernel), by decide +kernel⟩
theorem tw_2 : (Cond.selects "HeapSteps" (⟨"HeapSteps", "greatestWarmth", "()J"⟩ : MethodName) (⟨"HeapSteps", "greatestWarmth", "()J"⟩ : MethodName)) ∈ tb := List.mem_filter.mpr ⟨List.mem_of_getElem? (i := 2) (by decide +kernel), by decide +kernel⟩
theorem tw_3 : (Cond.selects "HeapSteps" (⟨"HeapSteps", "passMinute", "()V"⟩ : MethodName) (⟨"HeapSteps", "passMinute", "()V"⟩ : MethodName)) ∈ tb := List.mem_filter.mpr ⟨List.mem_of_getElem? (i := 3) (by decide +kernel), by decide +kernel⟩
theorem tw_4 : (Cond.selects "HeapSteps" (⟨"HeapSteps", "pour", "(JI)V"⟩ : MethodName) (⟨"HeapSteps", "pour", "(JI)V"⟩ : MethodName)) ∈ tb := List.mem_filter.mpr ⟨List.mem_of_getElem? (i := 4) (by decide +kernel), by decide +kernel⟩
theorem tw_5 : (Cond.selects "HeapSteps" (⟨"HeapSteps", "breakParts", "(LHeapSteps$Layer;)V"⟩ : MethodName) (⟨"HeapSteps", "breakParts", "(LHeapSteps$Layer;)V"⟩ : MethodName)) ∈ tb := List.mem_filter.mpr ⟨List.mem_of_getElem? (i := 5) (by decide +kernel), by decide +kernel⟩
theorem tw_6 : (Cond.selects "HeapSteps" (⟨"HeapSteps", "breakPart", "(LHeapSteps$Layer;IJ)V"⟩ : MethodName) (⟨"HeapSteps", "breakPart", "(LHeapSteps$Layer;IJ)V"⟩ : MethodName)) ∈ tb := List.mem_filter.mpr ⟨List.mem_of_getElem? (i := 6) (by decide +kernel), by decide +kernel⟩
theorem tw_7 : (Cond.selects "HeapSteps" (⟨"HeapSteps", "loseHeat", "(LHeapSteps$Layer;)V"⟩ : MethodName) (⟨"HeapSteps", "loseHeat", "(LHeapSteps$Layer;)V"⟩ : MethodName)) ∈ tb := List.mem_filter.mpr ⟨List.mem_of_getElem? (i := 7) (by decide +kernel), by decide +kernel⟩
theorem tw_8 : (Cond.selects "HeapSteps" (⟨"HeapSteps", "driveOff", "(LHeapSteps$Layer;)V"⟩ : MethodName) (⟨"HeapSteps", "driveOff", "(LHeapSteps$Layer;)V"⟩ : MethodName)) ∈ tb := List.mem_filter.mpr ⟨List.mem_of_getElem? (i := 8) (by decide +kernel), by decide +kernel⟩
theorem tw_9 : (Cond.selects "HeapSteps" (⟨"HeapSteps", "shareOut", "(I)V"⟩ : MethodName) (⟨"HeapSteps", "shareOut", "(I)V"⟩ : MethodName)) ∈ tb := List.mem_filter.mpr ⟨List.mem_of_getElem? (i := 9) (by decide +kernel), by decide +kernel⟩
theorem tw_10 : (Cond.selects "HeapSteps" (⟨"HeapSteps", "inAllLayers", "(I)J"⟩ : MethodName) (⟨"HeapSteps", "inAllLayers", "(I)J"⟩ : MethodName)) ∈ tb := List.mem_filter.mpr ⟨List.mem_of_getElem? (i := 10) (by decide +kernel), by decide +kernel⟩
theorem tw_11 : (Cond.selects "HeapSteps" (⟨"HeapSteps", "putInLessThere", "(I)J"⟩ : MethodName) (⟨"HeapSteps", "putInLessThere", "(I)J"⟩ : MethodName)) ∈ tb := List.mem_filter.mpr ⟨List.mem_of_getElem? (i := 11) (by decide +kernel), by decide +kernel⟩
theorem tw_12 : (Cond.selects "HeapStepsModel" (⟨"HeapStepsModel", "isLayer", "(I)Z"⟩ : MethodName) (⟨"HeapStepsModel", "isLayer", "(I)Z"⟩ : MethodName)) ∈ tb := List.mem_filter.mpr ⟨List.mem_of_getElem? (i := 12) (by decide +kernel), by decide +kernel⟩
theorem tw_13 : (Cond.selects "HeapStepsModel" (⟨"HeapStepsModel", "warmest", "()J"⟩ : MethodName) (⟨"HeapStepsModel", "warmest", "()J"⟩ : MethodName)) ∈ tb := List.mem_filter.mpr ⟨List.mem_of_getElem? (i := 13) (by decide +kernel), by decide +kernel⟩
theorem tw_14 : (Cond.selects "HeapStepsModel" (⟨"HeapStepsModel", "warmthOf", "(I)J"⟩ : MethodName) (⟨"HeapStepsModel", "warmthOf", "(I)J"⟩ : MethodName)) ∈ tb := List.mem_filter.mpr ⟨List.mem_of_getElem? (i := 14) (by decide +kernel), by decide +kernel⟩
theorem tw_15 : (Cond.selects "HeapStepsModel" (⟨"HeapStepsModel", "massOf", "(I)J"⟩ : MethodName) (⟨"HeapStepsModel", "massOf", "(I)J"⟩ : MethodName)) ∈ tb := List.mem_filter.mpr ⟨List.mem_of_getElem? (i := 15) (by decide +kernel), by decide +kernel⟩
theorem tw_16 : (Cond.selects "HeapStepsModel" (⟨"HeapStepsModel", "minute", "()V"⟩ : MethodName) (⟨"HeapStepsModel", "minute", "()V"⟩ : MethodName)) ∈ tb := List.mem_filter.mpr ⟨List.mem_of_getElem? (i := 16) (by decide +kernel), by decide +kernel⟩
theorem tw_17 : (Cond.selects "HeapStepsModel" (⟨"HeapStepsModel", "breaks", "(I)V"⟩ : MethodName) (⟨"HeapStepsModel", "breaks", "(I)V"⟩ : MethodName)) ∈ tb := List.mem_filter.mpr ⟨List.mem_of_getElem? (i := 17) (by decide +kernel), by decide +kernel⟩
theorem tw_18 : (Cond.selects "HeapStepsModel" (⟨"HeapStepsModel", "rateOf", "(IJ)J"⟩ : MethodName) (⟨"HeapStepsModel", "rateOf", "(IJ)J"⟩ : MethodName)) ∈ tb := List.mem_filter.mpr ⟨List.mem_of_getElem? (i := 18) (by decide +kernel), by decide +kernel⟩
theorem tw_19 : (Cond.selects "HeapStepsModel" (⟨"HeapStepsModel", "loses", "(I)V"⟩ : MethodName) (⟨"HeapStepsModel", "loses", "(I)V"⟩ : MethodName)) ∈ tb := List.mem_filter.mpr ⟨List.mem_of_getElem? (i := 19) (by decide +kernel), by decide +kernel⟩
theorem tw_20 : (Cond.selects "HeapStepsModel" (⟨"HeapStepsModel", "setFan", "()V"⟩ : MethodName) (⟨"HeapStepsModel", "setFan", "()V"⟩ : MethodName)) ∈ tb := List.mem_filter.mpr ⟨List.mem_of_getElem? (i := 20) (by decide +kernel), by decide +kernel⟩
theorem tw_21 : (Cond.selects "HeapStepsModel" (⟨"HeapStepsModel", "shareOf", "(JI)J"⟩ : MethodName) (⟨"HeapStepsModel", "shareOf", "(JI)J"⟩ : MethodName)) ∈ tb := List.mem_filter.mpr ⟨List.mem_of_getElem? (i := 21) (by decide +kernel), by decide +kernel⟩
theorem tw_22 : (Cond.selects "HeapStepsModel" (⟨"HeapStepsModel", "there", "(I)J"⟩ : MethodName) (⟨"HeapStepsModel", "there", "(I)J"⟩ : MethodName)) ∈ tb := List.mem_filter.mpr ⟨List.mem_of_getElem? (i := 22) (by decide +kernel), by decide +kernel⟩
theorem tw_23 : (Cond.initialized "HeapStepsLaw") ∈ tb := List.mem_filter.mpr ⟨List.mem_of_getElem? (i := 23) (by decide +kernel), by decide +kernel⟩
theorem tw_24 : (Cond.initialized "HeapSteps") ∈ tb := List.mem_filter.mpr ⟨List.mem_of_getElem? (i := 24) (by decide +kernel), by decide +kernel⟩
theorem tw_25 : (Cond.initialized "HeapSteps$Fan") ∈ tb := List.mem_filter.mpr ⟨List.mem_of_getElem? (i := 25) (by decide +kernel), by decide +kernel⟩
theorem tw_26 : (Cond.initialized "HeapSteps$Layer") ∈ tb := List.mem_filter.mpr ⟨List.mem_of_getElem? (i := 26) (by decide +kernel), by decide +kernel⟩
theorem tw_27 : (Cond.initialized "HeapSteps$Kind") ∈ tb := List.mem_filter.mpr ⟨List.mem_of_getElem? (i := 27) (by decide +kernel), by decide +kernel⟩
theorem tw_28 : (Cond.initialized "HeapStepsModel") ∈ tb := List.mem_filter.mpr ⟨List.mem_of_getElem? (i := 28) (by decide +kernel), by decide +kernel⟩
theorem tw_29 : (Cond.initialized "java/lang/Math") ∈ tb := List.mem_filter.mpr ⟨List.mem_of_getElem? (i := 29) (by decide +kernel), by decide +kernel⟩
theorem tw_30 : (Cond.classLink "HeapStepsLaw" (7 : Nat) "HeapSteps") ∈ tb := List.mem_filter.mpr ⟨List.mem_of_getElem? (i := 30) (by decide +kernel), by decide +kernel⟩
theorem tw_31 : (Cond.instantiable "HeapSteps" (10 : Nat)) ∈ tb := List.mem_filter.mpr ⟨List.mem_of_getElem? (i := 31) (by decide +kernel), by decide +kernel⟩
theorem tw_32 : (Cond.methodLink "HeapStepsLaw" (15 : Nat) (⟨"HeapSteps", "<init>", "(I)V"⟩ : MethodName)) ∈ tb := List.mem_filter.mpr ⟨List.mem_of_getElem? (i := 32) (by decide +kernel), by decide +kernel⟩
theorem tw_33 : (Cond.instanceMethod (⟨"HeapSteps", "<init>", "(I)V"⟩ : MethodName)) ∈ tb := List.mem_filter.mpr ⟨List.mem_of_getElem? (i := 33) (by decide +kernel), by decide +kernel⟩
theorem tw_34 : (Cond.code (⟨"HeapSteps", "<init>", "(I)V"⟩ : MethodName) prog_1_method_1_code (4 : Nat) (Option.none : Option FieldType)) ∈ tb := List.mem_filter.mpr ⟨List.mem_of_getElem? (i := 34) (by decide +kernel), by decide +kernel⟩
theorem tw_35 : (Cond.methodLink "HeapSteps" (1 : Nat) (⟨"java/lang/Object", "<init>", "()V"⟩ : MethodName)) ∈ tb := List.mem_filter.mpr ⟨List.mem_of_getElem? (i := 35) (by decide +kernel), by decide +kernel⟩
theorem tw_36 : (Cond.instanceMethod (⟨"java/lang/Object", "<init>", "()V"⟩ : MethodName)) ∈ tb := List.mem_filter.mpr ⟨List.mem_of_getElem? (i := 36) (by decide +kernel), by decide +kernel⟩
theorem tw_37 : (Cond.code (⟨"java/lang/Object", "<init>", "()V"⟩ : MethodName) object_method_1_code (1 : Nat) (Option.none : Option FieldType)) ∈ tb := List.mem_filter.mpr ⟨List.mem_of_getElem? (i := 37) (by decide +kernel), by decide +kernel⟩
theorem tw_38 : (Cond.classLink "HeapSteps" (9 : Nat) "HeapSteps$Kind") ∈ tb := List.mem_filter.mpr ⟨List.mem_of_getElem? (i := 38) (by decide +kernel), by decide +kernel⟩
theorem tn_39 : (Cond.arrayOver (FieldType.object "HeapSteps$Kind")) ∈ lw_tbl := List.mem_of_getElem? (i := 39) (by decide +kernel)
theorem tw_40 : (Cond.classLink "HeapSteps" (15 : Nat) "HeapSteps$Fan") ∈ tb := List.mem_filter.mpr ⟨List.mem_of_getElem? (i := 40) (by decide +kernel), by decide +kernel⟩
theorem tw_41 : (Cond.instantiable "HeapSteps$Fan" (6 : Nat)) ∈ tb := List.mem_filter.mpr ⟨List.mem_of_getElem? (i := 41) (by decide +kernel), by decide +kernel⟩
theorem tn_42 : (Cond.methodLinkNest "HeapSteps" (17 : Nat) (⟨"HeapSteps$Fan", "<init>", "()V"⟩ : MethodName) "HeapSteps") ∈ lw_tbl := List.mem_of_getElem? (i := 42) (by decide +kernel)
theorem tw_43 : (Cond.instanceMethod (⟨"HeapSteps$Fan", "<init>", "()V"⟩ : MethodName)) ∈ tb := List.mem_filter.mpr ⟨List.mem_of_getElem? (i := 43) (by decide +kernel), by decide +kernel⟩
theorem tw_44 : (Cond.code (⟨"HeapSteps$Fan", "<init>", "()V"⟩ : MethodName) prog_2_method_1_code (1 : Nat) (Option.none : Option FieldType)) ∈ tb := List.mem_filter.mpr ⟨List.mem_of_getElem? (i := 44) (by decide +kernel), by decide +kernel⟩
theorem tw_45 : (Cond.methodLink "HeapSteps$Fan" (3 : Nat) (⟨"java/lang/Object", "<init>", "()V"⟩ : MethodName)) ∈ tb := List.mem_filter.mpr ⟨List.mem_of_getElem? (i := 45) (by decide +kernel), by decide +kernel⟩
theorem tw_46 : (Cond.fieldLink "HeapSteps$Fan" (9 : Nat) "HeapSteps$Fan" "told" "Z") ∈ tb := List.mem_filter.mpr ⟨List.mem_of_getElem? (i := 46) (by decide +kernel), by decide +kernel⟩
theorem tw_47 : (Cond.fieldLink "HeapSteps$Fan" (15 : Nat) "HeapSteps$Fan" "target" "I") ∈ tb := List.mem_filter.mpr ⟨List.mem_of_getElem? (i := 47) (by decide +kernel), by decide +kernel⟩
theorem tw_48 : (Cond.fieldLink "HeapSteps$Fan" (19 : Nat) "HeapSteps$Fan" "p" "I") ∈ tb := List.mem_filter.mpr ⟨List.mem_of_getElem? (i := 48) (by decide +kernel), by decide +kernel⟩
theorem tw_49 : (Cond.fieldLink "HeapSteps$Fan" (22 : Nat) "HeapSteps$Fan" "i" "I") ∈ tb := List.mem_filter.mpr ⟨List.mem_of_getElem? (i := 49) (by decide +kernel), by decide +kernel⟩
theorem tw_50 : (Cond.fieldLink "HeapSteps$Fan" (25 : Nat) "HeapSteps$Fan" "sum" "J") ∈ tb := List.mem_filter.mpr ⟨List.mem_of_getElem? (i := 50) (by decide +kernel), by decide +kernel⟩
theorem tw_51 : (Cond.fieldLink "HeapSteps$Fan" (29 : Nat) "HeapSteps$Fan" "setting" "I") ∈ tb := List.mem_filter.mpr ⟨List.mem_of_getElem? (i := 51) (by decide +kernel), by decide +kernel⟩
theorem tw_52 : (Cond.fieldLink "HeapSteps" (113 : Nat) "HeapSteps$Fan" "setting" "I") ∈ tb := List.mem_filter.mpr ⟨List.mem_of_getElem? (i := 52) (by decide +kernel), by decide +kernel⟩
theorem tw_53 : (Cond.lays "HeapSteps$Fan" "HeapSteps$Fan" "told" "Z") ∈ tb := List.mem_filter.mpr ⟨List.mem_of_getElem? (i := 53) (by decide +kernel), by decide +kernel⟩
theorem tw_55 : (Cond.lays "HeapSteps$Fan" "HeapSteps$Fan" "target" "I") ∈ tb := List.mem_filter.mpr ⟨List.mem_of_getElem? (i := 55) (by decide +kernel), by decide +kernel⟩
theorem tw_57 : (Cond.lays "HeapSteps$Fan" "HeapSteps$Fan" "p" "I") ∈ tb := List.mem_filter.mpr ⟨List.mem_of_getElem? (i := 57) (by decide +kernel), by decide +kernel⟩
theorem tw_59 : (Cond.lays "HeapSteps$Fan" "HeapSteps$Fan" "i" "I") ∈ tb := List.mem_filter.mpr ⟨List.mem_of_getElem? (i := 59) (by decide +kernel), by decide +kernel⟩
theorem tw_61 : (Cond.lays "HeapSteps$Fan" "HeapSteps$Fan" "sum" "J") ∈ tb := List.mem_filter.mpr ⟨List.mem_of_getElem? (i := 61) (by decide +kernel), by decide +kernel⟩
theorem tw_63 : (Cond.lays "HeapSteps$Fan" "HeapSteps$Fan" "setting" "I") ∈ tb := List.mem_filter.mpr ⟨List.mem_of_getElem? (i := 63) (by decide +kernel), by decide +kernel⟩
theorem tw_66 : (Cond.constant "HeapSteps" (39 : Nat) (1000000000 : Int32)) ∈ tb := List.mem_filter.mpr ⟨List.mem_of_getElem? (i := 66) (by decide +kernel), by decide +kernel⟩
theorem tw_67 : (Cond.methodLink "HeapSteps" (46 : Nat) (⟨"HeapSteps", "within", "(III)Z"⟩ : MethodName)) ∈ tb := List.mem_filter.mpr ⟨List.mem_of_getElem? (i := 67) (by decide +kernel), by decide +kernel⟩
theorem tw_68 : (Cond.static (⟨"HeapSteps", "within", "(III)Z"⟩ : MethodName)) ∈ tb := List.mem_filter.mpr ⟨List.mem_of_getElem? (i := 68) (by decide +kernel), by decide +kernel⟩
theorem tw_69 : (Cond.code (⟨"HeapSteps", "within", "(III)Z"⟩ : MethodName) prog_1_method_21_code (3 : Nat) (Option.some FieldType.boolean)) ∈ tb := List.mem_filter.mpr ⟨List.mem_of_getElem? (i := 69) (by decide +kernel), by decide +kernel⟩
theorem tw_70 : (Cond.classLink "HeapSteps" (50 : Nat) "HeapSteps$Layer") ∈ tb := List.mem_filter.mpr ⟨List.mem_of_getElem? (i := 70) (by decide +kernel), by decide +kernel⟩
theorem tn_71 : (Cond.arrayOver (FieldType.object "HeapSteps$Layer")) ∈ lw_tbl := List.mem_of_getElem? (i := 71) (by decide +kernel)
theorem tw_72 : (Cond.instantiable "HeapSteps$Layer" (3 : Nat)) ∈ tb := List.mem_filter.mpr ⟨List.mem_of_getElem? (i := 72) (by decide +kernel), by decide +kernel⟩
theorem tn_73 : (Cond.methodLinkNest "HeapSteps" (56 : Nat) (⟨"HeapSteps$Layer", "<init>", "()V"⟩ : MethodName) "HeapSteps") ∈ lw_tbl := List.mem_of_getElem? (i := 73) (by decide +kernel)
theorem tw_74 : (Cond.instanceMethod (⟨"HeapSteps$Layer", "<init>", "()V"⟩ : MethodName)) ∈ tb := List.mem_filter.mpr ⟨List.mem_of_getElem? (i := 74) (by decide +kernel), by decide +kernel⟩
theorem tw_75 : (Cond.code (⟨"HeapSteps$Layer", "<init>", "()V"⟩ : MethodName) prog_4_method_1_code (1 : Nat) (Option.none : Option FieldType)) ∈ tb := List.mem_filter.mpr ⟨List.mem_of_getElem? (i := 75) (by decide +kernel), by decide +kernel⟩
theorem tw_76 : (Cond.methodLink "HeapSteps$Layer" (3 : Nat) (⟨"java/lang/Object", "<init>", "()V"⟩ : MethodName)) ∈ tb := List.mem_filter.mpr ⟨List.mem_of_getElem? (i := 76) (by decide +kernel), by decide +kernel⟩
theorem tw_77 : (Cond.constant "HeapSteps$Layer" (19 : Nat) (1000000000 : Int32)) ∈ tb := List.mem_filter.mpr ⟨List.mem_of_getElem? (i := 77) (by decide +kernel), by decide +kernel⟩
theorem tw_78 : (Cond.fieldLink "HeapSteps$Layer" (9 : Nat) "HeapSteps$Layer" "stock" "[J") ∈ tb := List.mem_filter.mpr ⟨List.mem_of_getElem? (i := 78) (by decide +kernel), by decide +kernel⟩
theorem tw_79 : (Cond.fieldLink "HeapSteps" (107 : Nat) "HeapSteps$Layer" "stock" "[J") ∈ tb := List.mem_filter.mpr ⟨List.mem_of_getElem? (i := 79) (by decide +kernel), by decide +kernel⟩
theorem tw_80 : (Cond.fieldLink "HeapSteps$Layer" (15 : Nat) "HeapSteps$Layer" "dry" "I") ∈ tb := List.mem_filter.mpr ⟨List.mem_of_getElem? (i := 80) (by decide +kernel), by decide +kernel⟩
theorem tw_81 : (Cond.fieldLink "HeapSteps" (86 : Nat) "HeapSteps$Layer" "dry" "I") ∈ tb := List.mem_filter.mpr ⟨List.mem_of_getElem? (i := 81) (by decide +kernel), by decide +kernel⟩
theorem tw_82 : (Cond.fieldLink "HeapSteps$Layer" (20 : Nat) "HeapSteps$Layer" "holds" "I") ∈ tb := List.mem_filter.mpr ⟨List.mem_of_getElem? (i := 82) (by decide +kernel), by decide +kernel⟩
theorem tw_83 : (Cond.fieldLink "HeapSteps" (89 : Nat) "HeapSteps$Layer" "holds" "I") ∈ tb := List.mem_filter.mpr ⟨List.mem_of_getElem? (i := 83) (by decide +kernel), by decide +kernel⟩
theorem tw_84 : (Cond.laysFinal "HeapSteps$Layer" "HeapSteps$Layer" "stock" "[J") ∈ tb := List.mem_filter.mpr ⟨List.mem_of_getElem? (i := 84) (by decide +kernel), by decide +kernel⟩
theorem tw_86 : (Cond.lays "HeapSteps$Layer" "HeapSteps$Layer" "dry" "I") ∈ tb := List.mem_filter.mpr ⟨List.mem_of_getElem? (i := 86) (by decide +kernel), by decide +kernel⟩
theorem tw_88 : (Cond.lays "HeapSteps$Layer" "HeapSteps$Layer" "holds" "I") ∈ tb := List.mem_filter.mpr ⟨List.mem_of_getElem? (i := 88) (by decide +kernel), by decide +kernel⟩
theorem tw_91 : (Cond.arrayClass FieldType.long) ∈ tb := List.mem_filter.mpr ⟨List.mem_of_getElem? (i := 91) (by decide +kernel), by decide +kernel⟩
theorem tw_92 : (Cond.instantiable "HeapSteps$Kind" (5 : Nat)) ∈ tb := List.mem_filter.mpr ⟨List.mem_of_getElem? (i := 92) (by decide +kernel), by decide +kernel⟩
theorem tn_93 : (Cond.methodLinkNest "HeapSteps" (57 : Nat) (⟨"HeapSteps$Kind", "<init>", "()V"⟩ : MethodName) "HeapSteps") ∈ lw_tbl := List.mem_of_getElem? (i := 93) (by decide +kernel)
theorem tw_94 : (Cond.instanceMethod (⟨"HeapSteps$Kind", "<init>", "()V"⟩ : MethodName)) ∈ tb := List.mem_filter.mpr ⟨List.mem_of_getElem? (i := 94) (by decide +kernel), by decide +kernel⟩
theorem tw_95 : (Cond.code (⟨"HeapSteps$Kind", "<init>", "()V"⟩ : MethodName) prog_3_method_1_code (1 : Nat) (Option.none : Option FieldType)) ∈ tb := List.mem_filter.mpr ⟨List.mem_of_getElem? (i := 95) (by decide +kernel), by decide +kernel⟩
theorem tw_96 : (Cond.methodLink "HeapSteps$Kind" (3 : Nat) (⟨"java/lang/Object", "<init>", "()V"⟩ : MethodName)) ∈ tb := List.mem_filter.mpr ⟨List.mem_of_getElem? (i := 96) (by decide +kernel), by decide +kernel⟩
theorem tw_97 : (Cond.fieldLink "HeapSteps$Kind" (9 : Nat) "HeapSteps$Kind" "fromWarmth" "[I") ∈ tb := List.mem_filter.mpr ⟨List.mem_of_getElem? (i := 97) (by decide +kernel), by decide +kernel⟩
theorem tw_98 : (Cond.fieldLink "HeapSteps$Kind" (15 : Nat) "HeapSteps$Kind" "millionths" "[I") ∈ tb := List.mem_filter.mpr ⟨List.mem_of_getElem? (i := 98) (by decide +kernel), by decide +kernel⟩
theorem tw_99 : (Cond.fieldLink "HeapSteps$Kind" (18 : Nat) "HeapSteps$Kind" "rows" "I") ∈ tb := List.mem_filter.mpr ⟨List.mem_of_getElem? (i := 99) (by decide +kernel), by decide +kernel⟩
theorem tw_100 : (Cond.fieldLink "HeapSteps$Kind" (22 : Nat) "HeapSteps$Kind" "heatYield" "I") ∈ tb := List.mem_filter.mpr ⟨List.mem_of_getElem? (i := 100) (by decide +kernel), by decide +kernel⟩
theorem tw_101 : (Cond.fieldLink "HeapSteps" (80 : Nat) "HeapSteps$Kind" "heatYield" "I") ∈ tb := List.mem_filter.mpr ⟨List.mem_of_getElem? (i := 101) (by decide +kernel), by decide +kernel⟩
theorem tw_102 : (Cond.fieldLink "HeapSteps$Kind" (25 : Nat) "HeapSteps$Kind" "waterYield" "I") ∈ tb := List.mem_filter.mpr ⟨List.mem_of_getElem? (i := 102) (by decide +kernel), by decide +kernel⟩
theorem tw_103 : (Cond.fieldLink "HeapSteps" (83 : Nat) "HeapSteps$Kind" "waterYield" "I") ∈ tb := List.mem_filter.mpr ⟨List.mem_of_getElem? (i := 103) (by decide +kernel), by decide +kernel⟩
theorem tw_104 : (Cond.laysFinal "HeapSteps$Kind" "HeapSteps$Kind" "fromWarmth" "[I") ∈ tb := List.mem_filter.mpr ⟨List.mem_of_getElem? (i := 104) (by decide +kernel), by decide +kernel⟩
theorem tw_106 : (Cond.laysFinal "HeapSteps$Kind" "HeapSteps$Kind" "millionths" "[I") ∈ tb := List.mem_filter.mpr ⟨List.mem_of_getElem? (i := 106) (by decide +kernel), by decide +kernel⟩
theorem tw_108 : (Cond.lays "HeapSteps$Kind" "HeapSteps$Kind" "rows" "I") ∈ tb := List.mem_filter.mpr ⟨List.mem_of_getElem? (i := 108) (by decide +kernel), by decide +kernel⟩
theorem tw_110 : (Cond.lays "HeapSteps$Kind" "HeapSteps$Kind" "heatYield" "I") ∈ tb := List.mem_filter.mpr ⟨List.mem_of_getElem? (i := 110) (by decide +kernel), by decide +kernel⟩
theorem tw_112 : (Cond.lays "HeapSteps$Kind" "HeapSteps$Kind" "waterYield" "I") ∈ tb := List.mem_filter.mpr ⟨List.mem_of_getElem? (i := 112) (by decide +kernel), by decide +kernel⟩
theorem tw_115 : (Cond.arrayClass FieldType.int) ∈ tb := List.mem_filter.mpr ⟨List.mem_of_getElem? (i := 115) (by decide +kernel), by decide +kernel⟩
theorem tw_116 : (Cond.fieldLink "HeapSteps" (52 : Nat) "HeapSteps" "layers" "[LHeapSteps$Layer;") ∈ tb := List.mem_filter.mpr ⟨List.mem_of_getElem? (i := 116) (by decide +kernel), by decide +kernel⟩
theorem tw_117 : (Cond.fieldLink "HeapSteps" (11 : Nat) "HeapSteps" "kinds" "[LHeapSteps$Kind;") ∈ tb := List.mem_filter.mpr ⟨List.mem_of_getElem? (i := 117) (by decide +kernel), by decide +kernel⟩
theorem tw_118 : (Cond.fieldLink "HeapSteps" (18 : Nat) "HeapSteps" "blower" "LHeapSteps$Fan;") ∈ tb := List.mem_filter.mpr ⟨List.mem_of_getElem? (i := 118) (by decide +kernel), by decide +kernel⟩
theorem tw_119 : (Cond.fieldLink "HeapSteps" (22 : Nat) "HeapSteps" "sums" "[J") ∈ tb := List.mem_filter.mpr ⟨List.mem_of_getElem? (i := 119) (by decide +kernel), by decide +kernel⟩
theorem tw_120 : (Cond.fieldLink "HeapSteps" (26 : Nat) "HeapSteps" "putIn" "[J") ∈ tb := List.mem_filter.mpr ⟨List.mem_of_getElem? (i := 120) (by decide +kernel), by decide +kernel⟩
theorem tw_121 : (Cond.fieldLink "HeapSteps" (29 : Nat) "HeapSteps" "takenAway" "[J") ∈ tb := List.mem_filter.mpr ⟨List.mem_of_getElem? (i := 121) (by decide +kernel), by decide +kernel⟩
theorem tw_122 : (Cond.fieldLink "HeapSteps" (32 : Nat) "HeapSteps" "rainGrams" "I") ∈ tb := List.mem_filter.mpr ⟨List.mem_of_getElem? (i := 122) (by decide +kernel), by decide +kernel⟩
theorem tw_123 : (Cond.fieldLink "HeapSteps" (36 : Nat) "HeapSteps" "lossMillionths" "I") ∈ tb := List.mem_filter.mpr ⟨List.mem_of_getElem? (i := 123) (by decide +kernel), by decide +kernel⟩
theorem tw_124 : (Cond.fieldLink "HeapSteps" (40 : Nat) "HeapSteps" "limitWarmth" "I") ∈ tb := List.mem_filter.mpr ⟨List.mem_of_getElem? (i := 124) (by decide +kernel), by decide +kernel⟩
theorem tw_125 : (Cond.fieldLink "HeapSteps" (43 : Nat) "HeapSteps" "turns" "I") ∈ tb := List.mem_filter.mpr ⟨List.mem_of_getElem? (i := 125) (by decide +kernel), by decide +kernel⟩
theorem tw_126 : (Cond.laysFinal "HeapSteps" "HeapSteps" "layers" "[LHeapSteps$Layer;") ∈ tb := List.mem_filter.mpr ⟨List.mem_of_getElem? (i := 126) (by decide +kernel), by decide +kernel⟩
theorem tw_128 : (Cond.laysFinal "HeapSteps" "HeapSteps" "kinds" "[LHeapSteps$Kind;") ∈ tb := List.mem_filter.mpr ⟨List.mem_of_getElem? (i := 128) (by decide +kernel), by decide +kernel⟩
theorem tw_130 : (Cond.laysFinal "HeapSteps" "HeapSteps" "blower" "LHeapSteps$Fan;") ∈ tb := List.mem_filter.mpr ⟨List.mem_of_getElem? (i := 130) (by decide +kernel), by decide +kernel⟩
theorem tw_132 : (Cond.laysFinal "HeapSteps" "HeapSteps" "sums" "[J") ∈ tb := List.mem_filter.mpr ⟨List.mem_of_getElem? (i := 132) (by decide +kernel), by decide +kernel⟩
theorem tw_134 : (Cond.laysFinal "HeapSteps" "HeapSteps" "putIn" "[J") ∈ tb := List.mem_filter.mpr ⟨List.mem_of_getElem? (i := 134) (by decide +kernel), by decide +kernel⟩
theorem tw_136 : (Cond.laysFinal "HeapSteps" "HeapSteps" "takenAway" "[J") ∈ tb := List.mem_filter.mpr ⟨List.mem_of_getElem? (i := 136) (by decide +kernel), by decide +kernel⟩
theorem tw_138 : (Cond.lays "HeapSteps" "HeapSteps" "rainGrams" "I") ∈ tb := List.mem_filter.mpr ⟨List.mem_of_getElem? (i := 138) (by decide +kernel), by decide +kernel⟩
theorem tw_140 : (Cond.lays "HeapSteps" "HeapSteps" "lossMillionths" "I") ∈ tb := List.mem_filter.mpr ⟨List.mem_of_getElem? (i := 140) (by decide +kernel), by decide +kernel⟩
theorem tw_142 : (Cond.lays "HeapSteps" "HeapSteps" "limitWarmth" "I") ∈ tb := List.mem_filter.mpr ⟨List.mem_of_getElem? (i := 142) (by decide +kernel), by decide +kernel⟩
theorem tw_144 : (Cond.lays "HeapSteps" "HeapSteps" "turns" "I") ∈ tb := List.mem_filter.mpr ⟨List.mem_of_getElem? (i := 144) (by decide +kernel), by decide +kernel⟩
theorem tw_147 : (Cond.methodLink "HeapStepsLaw" (21 : Nat) (⟨"HeapSteps", "part", "(III)Z"⟩ : MethodName)) ∈ tb := List.mem_filter.mpr ⟨List.mem_of_getElem? (i := 147) (by decide +kernel), by decide +kernel⟩
theorem tw_148 : (Cond.instanceMethod (⟨"HeapSteps", "part", "(III)Z"⟩ : MethodName)) ∈ tb := List.mem_filter.mpr ⟨List.mem_of_getElem? (i := 148) (by decide +kernel), by decide +kernel⟩
theorem tw_149 : (Cond.selects "HeapSteps" (⟨"HeapSteps", "part", "(III)Z"⟩ : MethodName) (⟨"HeapSteps", "part", "(III)Z"⟩ : MethodName)) ∈ tb := List.mem_filter.mpr ⟨List.mem_of_getElem? (i := 149) (by decide +kernel), by decide +kernel⟩
theorem tw_150 : (Cond.code (⟨"HeapSteps", "part", "(III)Z"⟩ : MethodName) prog_1_method_2_code (4 : Nat) (Option.some FieldType.boolean)) ∈ tb := List.mem_filter.mpr ⟨List.mem_of_getElem? (i := 150) (by decide +kernel), by decide +kernel⟩
theorem tw_151 : (Cond.methodLink "HeapSteps" (58 : Nat) (⟨"HeapSteps", "isPart", "(I)Z"⟩ : MethodName)) ∈ tb := List.mem_filter.mpr ⟨List.mem_of_getElem? (i := 151) (by decide +kernel), by decide +kernel⟩
theorem tw_152 : (Cond.static (⟨"HeapSteps", "isPart", "(I)Z"⟩ : MethodName)) ∈ tb := List.mem_filter.mpr ⟨List.mem_of_getElem? (i := 152) (by decide +kernel), by decide +kernel⟩
theorem tw_153 : (Cond.code (⟨"HeapSteps", "isPart", "(I)Z"⟩ : MethodName) prog_1_method_22_code (1 : Nat) (Option.some FieldType.boolean)) ∈ tb := List.mem_filter.mpr ⟨List.mem_of_getElem? (i := 153) (by decide +kernel), by decide +kernel⟩
theorem tw_154 : (Cond.constant "HeapSteps" (62 : Nat) (1000000 : Int32)) ∈ tb := List.mem_filter.mpr ⟨List.mem_of_getElem? (i := 154) (by decide +kernel), by decide +kernel⟩
theorem tw_155 : (Cond.methodLink "HeapSteps" (63 : Nat) (⟨"HeapSteps", "layerAt", "(I)LHeapSteps$Layer;"⟩ : MethodName)) ∈ tb := List.mem_filter.mpr ⟨List.mem_of_getElem? (i := 155) (by decide +kernel), by decide +kernel⟩
theorem tw_157 : (Cond.instanceMethod (⟨"HeapSteps", "layerAt", "(I)LHeapSteps$Layer;"⟩ : MethodName)) ∈ tb := List.mem_filter.mpr ⟨List.mem_of_getElem? (i := 157) (by decide +kernel), by decide +kernel⟩
theorem tw_158 : (Cond.code (⟨"HeapSteps", "layerAt", "(I)LHeapSteps$Layer;"⟩ : MethodName) prog_1_method_25_code (2 : Nat) (Option.some (FieldType.object "HeapSteps$Layer"))) ∈ tb := List.mem_filter.mpr ⟨List.mem_of_getElem? (i := 158) (by decide +kernel), by decide +kernel⟩
theorem tw_159 : (Cond.constantLong "HeapSteps" (67 : Nat) (1000000000 : Int64)) ∈ tb := List.mem_filter.mpr ⟨List.mem_of_getElem? (i := 159) (by decide +kernel), by decide +kernel⟩
theorem tw_160 : (Cond.methodLink "HeapSteps" (69 : Nat) (⟨"HeapSteps", "bring", "(LHeapSteps$Layer;IIJ)Z"⟩ : MethodName)) ∈ tb := List.mem_filter.mpr ⟨List.mem_of_getElem? (i := 160) (by decide +kernel), by decide +kernel⟩
theorem tw_162 : (Cond.instanceMethod (⟨"HeapSteps", "bring", "(LHeapSteps$Layer;IIJ)Z"⟩ : MethodName)) ∈ tb := List.mem_filter.mpr ⟨List.mem_of_getElem? (i := 162) (by decide +kernel), by decide +kernel⟩
theorem tw_163 : (Cond.code (⟨"HeapSteps", "bring", "(LHeapSteps$Layer;IIJ)Z"⟩ : MethodName) prog_1_method_26_code (6 : Nat) (Option.some FieldType.boolean)) ∈ tb := List.mem_filter.mpr ⟨List.mem_of_getElem? (i := 163) (by decide +kernel), by decide +kernel⟩
theorem tw_164 : (Cond.methodLink "HeapStepsLaw" (26 : Nat) (⟨"HeapSteps", "water", "(II)Z"⟩ : MethodName)) ∈ tb := List.mem_filter.mpr ⟨List.mem_of_getElem? (i := 164) (by decide +kernel), by decide +kernel⟩
theorem tw_165 : (Cond.instanceMethod (⟨"HeapSteps", "water", "(II)Z"⟩ : MethodName)) ∈ tb := List.mem_filter.mpr ⟨List.mem_of_getElem? (i := 165) (by decide +kernel), by decide +kernel⟩
theorem tw_166 : (Cond.selects "HeapSteps" (⟨"HeapSteps", "water", "(II)Z"⟩ : MethodName) (⟨"HeapSteps", "water", "(II)Z"⟩ : MethodName)) ∈ tb := List.mem_filter.mpr ⟨List.mem_of_getElem? (i := 166) (by decide +kernel), by decide +kernel⟩
theorem tw_167 : (Cond.code (⟨"HeapSteps", "water", "(II)Z"⟩ : MethodName) prog_1_method_3_code (3 : Nat) (Option.some FieldType.boolean)) ∈ tb := List.mem_filter.mpr ⟨List.mem_of_getElem? (i := 167) (by decide +kernel), by decide +kernel⟩
theorem tw_168 : (Cond.methodLink "HeapStepsLaw" (31 : Nat) (⟨"HeapSteps", "heat", "(II)Z"⟩ : MethodName)) ∈ tb := List.mem_filter.mpr ⟨List.mem_of_getElem? (i := 168) (by decide +kernel), by decide +kernel⟩
theorem tw_169 : (Cond.instanceMethod (⟨"HeapSteps", "heat", "(II)Z"⟩ : MethodName)) ∈ tb := List.mem_filter.mpr ⟨List.mem_of_getElem? (i := 169) (by decide +kernel), by decide +kernel⟩
theorem tw_170 : (Cond.selects "HeapSteps" (⟨"HeapSteps", "heat", "(II)Z"⟩ : MethodName) (⟨"HeapSteps", "heat", "(II)Z"⟩ : MethodName)) ∈ tb := List.mem_filter.mpr ⟨List.mem_of_getElem? (i := 170) (by decide +kernel), by decide +kernel⟩
theorem tw_171 : (Cond.code (⟨"HeapSteps", "heat", "(II)Z"⟩ : MethodName) prog_1_method_4_code (3 : Nat) (Option.some FieldType.boolean)) ∈ tb := List.mem_filter.mpr ⟨List.mem_of_getElem? (i := 171) (by decide +kernel), by decide +kernel⟩
theorem tw_172 : (Cond.constantLong "HeapSteps" (73 : Nat) (1000000000000000 : Int64)) ∈ tb := List.mem_filter.mpr ⟨List.mem_of_getElem? (i := 172) (by decide +kernel), by decide +kernel⟩
theorem tw_173 : (Cond.methodLink "HeapStepsLaw" (35 : Nat) (⟨"HeapSteps", "rate", "(III)Z"⟩ : MethodName)) ∈ tb := List.mem_filter.mpr ⟨List.mem_of_getElem? (i := 173) (by decide +kernel), by decide +kernel⟩
theorem tw_174 : (Cond.instanceMethod (⟨"HeapSteps", "rate", "(III)Z"⟩ : MethodName)) ∈ tb := List.mem_filter.mpr ⟨List.mem_of_getElem? (i := 174) (by decide +kernel), by decide +kernel⟩
theorem tw_175 : (Cond.selects "HeapSteps" (⟨"HeapSteps", "rate", "(III)Z"⟩ : MethodName) (⟨"HeapSteps", "rate", "(III)Z"⟩ : MethodName)) ∈ tb := List.mem_filter.mpr ⟨List.mem_of_getElem? (i := 175) (by decide +kernel), by decide +kernel⟩
theorem tw_176 : (Cond.code (⟨"HeapSteps", "rate", "(III)Z"⟩ : MethodName) prog_1_method_5_code (4 : Nat) (Option.some FieldType.boolean)) ∈ tb := List.mem_filter.mpr ⟨List.mem_of_getElem? (i := 176) (by decide +kernel), by decide +kernel⟩
theorem tw_177 : (Cond.constant "HeapSteps" (75 : Nat) (100000 : Int32)) ∈ tb := List.mem_filter.mpr ⟨List.mem_of_getElem? (i := 177) (by decide +kernel), by decide +kernel⟩
theorem tw_178 : (Cond.methodLink "HeapSteps" (76 : Nat) (⟨"HeapSteps$Kind", "addRow", "(II)Z"⟩ : MethodName)) ∈ tb := List.mem_filter.mpr ⟨List.mem_of_getElem? (i := 178) (by decide +kernel), by decide +kernel⟩
theorem tw_179 : (Cond.instanceMethod (⟨"HeapSteps$Kind", "addRow", "(II)Z"⟩ : MethodName)) ∈ tb := List.mem_filter.mpr ⟨List.mem_of_getElem? (i := 179) (by decide +kernel), by decide +kernel⟩
theorem tw_180 : (Cond.selects "HeapSteps$Kind" (⟨"HeapSteps$Kind", "addRow", "(II)Z"⟩ : MethodName) (⟨"HeapSteps$Kind", "addRow", "(II)Z"⟩ : MethodName)) ∈ tb := List.mem_filter.mpr ⟨List.mem_of_getElem? (i := 180) (by decide +kernel), by decide +kernel⟩
theorem tw_181 : (Cond.code (⟨"HeapSteps$Kind", "addRow", "(II)Z"⟩ : MethodName) prog_3_method_2_code (3 : Nat) (Option.some FieldType.boolean)) ∈ tb := List.mem_filter.mpr ⟨List.mem_of_getElem? (i := 181) (by decide +kernel), by decide +kernel⟩
theorem tw_182 : (Cond.methodLink "HeapStepsLaw" (39 : Nat) (⟨"HeapSteps", "yields", "(III)Z"⟩ : MethodName)) ∈ tb := List.mem_filter.mpr ⟨List.mem_of_getElem? (i := 182) (by decide +kernel), by decide +kernel⟩
theorem tw_183 : (Cond.instanceMethod (⟨"HeapSteps", "yields", "(III)Z"⟩ : MethodName)) ∈ tb := List.mem_filter.mpr ⟨List.mem_of_getElem? (i := 183) (by decide +kernel), by decide +kernel⟩
theorem tw_184 : (Cond.selects "HeapSteps" (⟨"HeapSteps", "yields", "(III)Z"⟩ : MethodName) (⟨"HeapSteps", "yields", "(III)Z"⟩ : MethodName)) ∈ tb := List.mem_filter.mpr ⟨List.mem_of_getElem? (i := 184) (by decide +kernel), by decide +kernel⟩
theorem tw_185 : (Cond.code (⟨"HeapSteps", "yields", "(III)Z"⟩ : MethodName) prog_1_method_6_code (4 : Nat) (Option.some FieldType.boolean)) ∈ tb := List.mem_filter.mpr ⟨List.mem_of_getElem? (i := 185) (by decide +kernel), by decide +kernel⟩
theorem tw_186 : (Cond.methodLink "HeapStepsLaw" (43 : Nat) (⟨"HeapSteps", "bounds", "(III)Z"⟩ : MethodName)) ∈ tb := List.mem_filter.mpr ⟨List.mem_of_getElem? (i := 186) (by decide +kernel), by decide +kernel⟩
theorem tw_187 : (Cond.instanceMethod (⟨"HeapSteps", "bounds", "(III)Z"⟩ : MethodName)) ∈ tb := List.mem_filter.mpr ⟨List.mem_of_getElem? (i := 187) (by decide +kernel), by decide +kernel⟩
theorem tw_188 : (Cond.selects "HeapSteps" (⟨"HeapSteps", "bounds", "(III)Z"⟩ : MethodName) (⟨"HeapSteps", "bounds", "(III)Z"⟩ : MethodName)) ∈ tb := List.mem_filter.mpr ⟨List.mem_of_getElem? (i := 188) (by decide +kernel), by decide +kernel⟩
theorem tw_189 : (Cond.code (⟨"HeapSteps", "bounds", "(III)Z"⟩ : MethodName) prog_1_method_7_code (5 : Nat) (Option.some FieldType.boolean)) ∈ tb := List.mem_filter.mpr ⟨List.mem_of_getElem? (i := 189) (by decide +kernel), by decide +kernel⟩
theorem tw_190 : (Cond.methodLink "HeapStepsLaw" (47 : Nat) (⟨"HeapSteps", "rain", "(I)Z"⟩ : MethodName)) ∈ tb := List.mem_filter.mpr ⟨List.mem_of_getElem? (i := 190) (by decide +kernel), by decide +kernel⟩
theorem tw_191 : (Cond.instanceMethod (⟨"HeapSteps", "rain", "(I)Z"⟩ : MethodName)) ∈ tb := List.mem_filter.mpr ⟨List.mem_of_getElem? (i := 191) (by decide +kernel), by decide +kernel⟩
theorem tw_192 : (Cond.selects "HeapSteps" (⟨"HeapSteps", "rain", "(I)Z"⟩ : MethodName) (⟨"HeapSteps", "rain", "(I)Z"⟩ : MethodName)) ∈ tb := List.mem_filter.mpr ⟨List.mem_of_getElem? (i := 192) (by decide +kernel), by decide +kernel⟩
theorem tw_193 : (Cond.code (⟨"HeapSteps", "rain", "(I)Z"⟩ : MethodName) prog_1_method_8_code (2 : Nat) (Option.some FieldType.boolean)) ∈ tb := List.mem_filter.mpr ⟨List.mem_of_getElem? (i := 193) (by decide +kernel), by decide +kernel⟩
theorem tw_194 : (Cond.methodLink "HeapStepsLaw" (52 : Nat) (⟨"HeapSteps", "loss", "(I)Z"⟩ : MethodName)) ∈ tb := List.mem_filter.mpr ⟨List.mem_of_getElem? (i := 194) (by decide +kernel), by decide +kernel⟩
theorem tw_195 : (Cond.instanceMethod (⟨"HeapSteps", "loss", "(I)Z"⟩ : MethodName)) ∈ tb := List.mem_filter.mpr ⟨List.mem_of_getElem? (i := 195) (by decide +kernel), by decide +kernel⟩
theorem tw_196 : (Cond.selects "HeapSteps" (⟨"HeapSteps", "loss", "(I)Z"⟩ : MethodName) (⟨"HeapSteps", "loss", "(I)Z"⟩ : MethodName)) ∈ tb := List.mem_filter.mpr ⟨List.mem_of_getElem? (i := 196) (by decide +kernel), by decide +kernel⟩
theorem tw_197 : (Cond.code (⟨"HeapSteps", "loss", "(I)Z"⟩ : MethodName) prog_1_method_9_code (2 : Nat) (Option.some FieldType.boolean)) ∈ tb := List.mem_filter.mpr ⟨List.mem_of_getElem? (i := 197) (by decide +kernel), by decide +kernel⟩
theorem tw_198 : (Cond.methodLink "HeapStepsLaw" (56 : Nat) (⟨"HeapSteps", "fan", "(III)Z"⟩ : MethodName)) ∈ tb := List.mem_filter.mpr ⟨List.mem_of_getElem? (i := 198) (by decide +kernel), by decide +kernel⟩
theorem tw_199 : (Cond.instanceMethod (⟨"HeapSteps", "fan", "(III)Z"⟩ : MethodName)) ∈ tb := List.mem_filter.mpr ⟨List.mem_of_getElem? (i := 199) (by decide +kernel), by decide +kernel⟩
theorem tw_200 : (Cond.selects "HeapSteps" (⟨"HeapSteps", "fan", "(III)Z"⟩ : MethodName) (⟨"HeapSteps", "fan", "(III)Z"⟩ : MethodName)) ∈ tb := List.mem_filter.mpr ⟨List.mem_of_getElem? (i := 200) (by decide +kernel), by decide +kernel⟩
theorem tw_201 : (Cond.code (⟨"HeapSteps", "fan", "(III)Z"⟩ : MethodName) prog_1_method_10_code (4 : Nat) (Option.some FieldType.boolean)) ∈ tb := List.mem_filter.mpr ⟨List.mem_of_getElem? (i := 201) (by decide +kernel), by decide +kernel⟩
theorem tw_202 : (Cond.methodLink "HeapSteps" (92 : Nat) (⟨"HeapSteps$Fan", "tell", "(III)V"⟩ : MethodName)) ∈ tb := List.mem_filter.mpr ⟨List.mem_of_getElem? (i := 202) (by decide +kernel), by decide +kernel⟩
theorem tw_203 : (Cond.instanceMethod (⟨"HeapSteps$Fan", "tell", "(III)V"⟩ : MethodName)) ∈ tb := List.mem_filter.mpr ⟨List.mem_of_getElem? (i := 203) (by decide +kernel), by decide +kernel⟩
theorem tw_204 : (Cond.selects "HeapSteps$Fan" (⟨"HeapSteps$Fan", "tell", "(III)V"⟩ : MethodName) (⟨"HeapSteps$Fan", "tell", "(III)V"⟩ : MethodName)) ∈ tb := List.mem_filter.mpr ⟨List.mem_of_getElem? (i := 204) (by decide +kernel), by decide +kernel⟩
theorem tw_205 : (Cond.code (⟨"HeapSteps$Fan", "tell", "(III)V"⟩ : MethodName) prog_2_method_2_code (4 : Nat) (Option.none : Option FieldType)) ∈ tb := List.mem_filter.mpr ⟨List.mem_of_getElem? (i := 205) (by decide +kernel), by decide +kernel⟩
theorem tw_206 : (Cond.methodLink "HeapStepsLaw" (60 : Nat) (⟨"HeapSteps", "limit", "(I)Z"⟩ : MethodName)) ∈ tb := List.mem_filter.mpr ⟨List.mem_of_getElem? (i := 206) (by decide +kernel), by decide +kernel⟩
theorem tw_207 : (Cond.instanceMethod (⟨"HeapSteps", "limit", "(I)Z"⟩ : MethodName)) ∈ tb := List.mem_filter.mpr ⟨List.mem_of_getElem? (i := 207) (by decide +kernel), by decide +kernel⟩
theorem tw_208 : (Cond.selects "HeapSteps" (⟨"HeapSteps", "limit", "(I)Z"⟩ : MethodName) (⟨"HeapSteps", "limit", "(I)Z"⟩ : MethodName)) ∈ tb := List.mem_filter.mpr ⟨List.mem_of_getElem? (i := 208) (by decide +kernel), by decide +kernel⟩
theorem tw_209 : (Cond.code (⟨"HeapSteps", "limit", "(I)Z"⟩ : MethodName) prog_1_method_11_code (2 : Nat) (Option.some FieldType.boolean)) ∈ tb := List.mem_filter.mpr ⟨List.mem_of_getElem? (i := 209) (by decide +kernel), by decide +kernel⟩
theorem tw_210 : (Cond.methodLink "HeapStepsLaw" (64 : Nat) (⟨"HeapSteps", "run", "(I)I"⟩ : MethodName)) ∈ tb := List.mem_filter.mpr ⟨List.mem_of_getElem? (i := 210) (by decide +kernel), by decide +kernel⟩
theorem tw_211 : (Cond.instanceMethod (⟨"HeapSteps", "run", "(I)I"⟩ : MethodName)) ∈ tb := List.mem_filter.mpr ⟨List.mem_of_getElem? (i := 211) (by decide +kernel), by decide +kernel⟩
theorem tw_212 : (Cond.selects "HeapSteps" (⟨"HeapSteps", "run", "(I)I"⟩ : MethodName) (⟨"HeapSteps", "run", "(I)I"⟩ : MethodName)) ∈ tb := List.mem_filter.mpr ⟨List.mem_of_getElem? (i := 212) (by decide +kernel), by decide +kernel⟩
theorem tw_213 : (Cond.code (⟨"HeapSteps", "run", "(I)I"⟩ : MethodName) prog_1_method_12_code (3 : Nat) (Option.some FieldType.int)) ∈ tb := List.mem_filter.mpr ⟨List.mem_of_getElem? (i := 213) (by decide +kernel), by decide +kernel⟩
theorem tw_214 : (Cond.constantLong "HeapSteps" (96 : Nat) (20000 : Int64)) ∈ tb := List.mem_filter.mpr ⟨List.mem_of_getElem? (i := 214) (by decide +kernel), by decide +kernel⟩
theorem tw_215 : (Cond.methodLink "HeapSteps" (98 : Nat) (⟨"HeapSteps", "greatestWarmth", "()J"⟩ : MethodName)) ∈ tb := List.mem_filter.mpr ⟨List.mem_of_getElem? (i := 215) (by decide +kernel), by decide +kernel⟩
theorem tw_217 : (Cond.instanceMethod (⟨"HeapSteps", "greatestWarmth", "()J"⟩ : MethodName)) ∈ tb := List.mem_filter.mpr ⟨List.mem_of_getElem? (i := 217) (by decide +kernel), by decide +kernel⟩
theorem tw_218 : (Cond.code (⟨"HeapSteps", "greatestWarmth", "()J"⟩ : MethodName) prog_1_method_27_code (7 : Nat) (Option.some FieldType.long)) ∈ tb := List.mem_filter.mpr ⟨List.mem_of_getElem? (i := 218) (by decide +kernel), by decide +kernel⟩
theorem tw_219 : (Cond.methodLink "HeapSteps" (110 : Nat) (⟨"HeapSteps$Layer", "warmthNow", "()J"⟩ : MethodName)) ∈ tb := List.mem_filter.mpr ⟨List.mem_of_getElem? (i := 219) (by decide +kernel), by decide +kernel⟩
theorem tw_220 : (Cond.instanceMethod (⟨"HeapSteps$Layer", "warmthNow", "()J"⟩ : MethodName)) ∈ tb := List.mem_filter.mpr ⟨List.mem_of_getElem? (i := 220) (by decide +kernel), by decide +kernel⟩
theorem tw_221 : (Cond.selects "HeapSteps$Layer" (⟨"HeapSteps$Layer", "warmthNow", "()J"⟩ : MethodName) (⟨"HeapSteps$Layer", "warmthNow", "()J"⟩ : MethodName)) ∈ tb := List.mem_filter.mpr ⟨List.mem_of_getElem? (i := 221) (by decide +kernel), by decide +kernel⟩
theorem tw_222 : (Cond.code (⟨"HeapSteps$Layer", "warmthNow", "()J"⟩ : MethodName) prog_4_method_3_code (3 : Nat) (Option.some FieldType.long)) ∈ tb := List.mem_filter.mpr ⟨List.mem_of_getElem? (i := 222) (by decide +kernel), by decide +kernel⟩
theorem tw_223 : (Cond.methodLink "HeapSteps$Layer" (23 : Nat) (⟨"HeapSteps$Layer", "mass", "()J"⟩ : MethodName)) ∈ tb := List.mem_filter.mpr ⟨List.mem_of_getElem? (i := 223) (by decide +kernel), by decide +kernel⟩
theorem tw_224 : (Cond.instanceMethod (⟨"HeapSteps$Layer", "mass", "()J"⟩ : MethodName)) ∈ tb := List.mem_filter.mpr ⟨List.mem_of_getElem? (i := 224) (by decide +kernel), by decide +kernel⟩
theorem tw_225 : (Cond.selects "HeapSteps$Layer" (⟨"HeapSteps$Layer", "mass", "()J"⟩ : MethodName) (⟨"HeapSteps$Layer", "mass", "()J"⟩ : MethodName)) ∈ tb := List.mem_filter.mpr ⟨List.mem_of_getElem? (i := 225) (by decide +kernel), by decide +kernel⟩
theorem tw_226 : (Cond.code (⟨"HeapSteps$Layer", "mass", "()J"⟩ : MethodName) prog_4_method_2_code (4 : Nat) (Option.some FieldType.long)) ∈ tb := List.mem_filter.mpr ⟨List.mem_of_getElem? (i := 226) (by decide +kernel), by decide +kernel⟩
theorem tw_227 : (Cond.methodLink "HeapSteps" (135 : Nat) (⟨"java/lang/Math", "max", "(JJ)J"⟩ : MethodName)) ∈ tb := List.mem_filter.mpr ⟨List.mem_of_getElem? (i := 227) (by decide +kernel), by decide +kernel⟩
theorem tw_228 : (Cond.static (⟨"java/lang/Math", "max", "(JJ)J"⟩ : MethodName)) ∈ tb := List.mem_filter.mpr ⟨List.mem_of_getElem? (i := 228) (by decide +kernel), by decide +kernel⟩
theorem tw_229 : (Cond.code (⟨"java/lang/Math", "max", "(JJ)J"⟩ : MethodName) prog_7_method_66_code (4 : Nat) (Option.some FieldType.long)) ∈ tb := List.mem_filter.mpr ⟨List.mem_of_getElem? (i := 229) (by decide +kernel), by decide +kernel⟩
theorem tw_230 : (Cond.methodLink "HeapSteps" (102 : Nat) (⟨"HeapSteps", "passMinute", "()V"⟩ : MethodName)) ∈ tb := List.mem_filter.mpr ⟨List.mem_of_getElem? (i := 230) (by decide +kernel), by decide +kernel⟩
theorem tw_232 : (Cond.instanceMethod (⟨"HeapSteps", "passMinute", "()V"⟩ : MethodName)) ∈ tb := List.mem_filter.mpr ⟨List.mem_of_getElem? (i := 232) (by decide +kernel), by decide +kernel⟩
theorem tw_233 : (Cond.code (⟨"HeapSteps", "passMinute", "()V"⟩ : MethodName) prog_1_method_28_code (3 : Nat) (Option.none : Option FieldType)) ∈ tb := List.mem_filter.mpr ⟨List.mem_of_getElem? (i := 233) (by decide +kernel), by decide +kernel⟩
theorem tw_234 : (Cond.methodLink "HeapSteps" (138 : Nat) (⟨"HeapSteps", "pour", "(JI)V"⟩ : MethodName)) ∈ tb := List.mem_filter.mpr ⟨List.mem_of_getElem? (i := 234) (by decide +kernel), by decide +kernel⟩
theorem tw_236 : (Cond.instanceMethod (⟨"HeapSteps", "pour", "(JI)V"⟩ : MethodName)) ∈ tb := List.mem_filter.mpr ⟨List.mem_of_getElem? (i := 236) (by decide +kernel), by decide +kernel⟩
theorem tw_237 : (Cond.code (⟨"HeapSteps", "pour", "(JI)V"⟩ : MethodName) prog_1_method_29_code (5 : Nat) (Option.none : Option FieldType)) ∈ tb := List.mem_filter.mpr ⟨List.mem_of_getElem? (i := 237) (by decide +kernel), by decide +kernel⟩
theorem tw_238 : (Cond.methodLink "HeapSteps" (142 : Nat) (⟨"HeapSteps", "breakParts", "(LHeapSteps$Layer;)V"⟩ : MethodName)) ∈ tb := List.mem_filter.mpr ⟨List.mem_of_getElem? (i := 238) (by decide +kernel), by decide +kernel⟩
theorem tw_240 : (Cond.instanceMethod (⟨"HeapSteps", "breakParts", "(LHeapSteps$Layer;)V"⟩ : MethodName)) ∈ tb := List.mem_filter.mpr ⟨List.mem_of_getElem? (i := 240) (by decide +kernel), by decide +kernel⟩
theorem tw_241 : (Cond.code (⟨"HeapSteps", "breakParts", "(LHeapSteps$Layer;)V"⟩ : MethodName) prog_1_method_30_code (5 : Nat) (Option.none : Option FieldType)) ∈ tb := List.mem_filter.mpr ⟨List.mem_of_getElem? (i := 241) (by decide +kernel), by decide +kernel⟩
theorem tw_242 : (Cond.methodLink "HeapSteps" (159 : Nat) (⟨"HeapSteps", "breakPart", "(LHeapSteps$Layer;IJ)V"⟩ : MethodName)) ∈ tb := List.mem_filter.mpr ⟨List.mem_of_getElem? (i := 242) (by decide +kernel), by decide +kernel⟩
theorem tw_244 : (Cond.instanceMethod (⟨"HeapSteps", "breakPart", "(LHeapSteps$Layer;IJ)V"⟩ : MethodName)) ∈ tb := List.mem_filter.mpr ⟨List.mem_of_getElem? (i := 244) (by decide +kernel), by decide +kernel⟩
theorem tw_245 : (Cond.code (⟨"HeapSteps", "breakPart", "(LHeapSteps$Layer;IJ)V"⟩ : MethodName) prog_1_method_31_code (12 : Nat) (Option.none : Option FieldType)) ∈ tb := List.mem_filter.mpr ⟨List.mem_of_getElem? (i := 245) (by decide +kernel), by decide +kernel⟩
theorem tw_246 : (Cond.methodLink "HeapSteps" (163 : Nat) (⟨"HeapSteps$Kind", "millionthsAt", "(J)I"⟩ : MethodName)) ∈ tb := List.mem_filter.mpr ⟨List.mem_of_getElem? (i := 246) (by decide +kernel), by decide +kernel⟩
theorem tw_247 : (Cond.instanceMethod (⟨"HeapSteps$Kind", "millionthsAt", "(J)I"⟩ : MethodName)) ∈ tb := List.mem_filter.mpr ⟨List.mem_of_getElem? (i := 247) (by decide +kernel), by decide +kernel⟩
theorem tw_248 : (Cond.selects "HeapSteps$Kind" (⟨"HeapSteps$Kind", "millionthsAt", "(J)I"⟩ : MethodName) (⟨"HeapSteps$Kind", "millionthsAt", "(J)I"⟩ : MethodName)) ∈ tb := List.mem_filter.mpr ⟨List.mem_of_getElem? (i := 248) (by decide +kernel), by decide +kernel⟩
theorem tw_249 : (Cond.code (⟨"HeapSteps$Kind", "millionthsAt", "(J)I"⟩ : MethodName) prog_3_method_3_code (5 : Nat) (Option.some FieldType.int)) ∈ tb := List.mem_filter.mpr ⟨List.mem_of_getElem? (i := 249) (by decide +kernel), by decide +kernel⟩
theorem tw_250 : (Cond.methodLink "HeapSteps" (167 : Nat) (⟨"HeapSteps", "millionthsOf", "(JJ)J"⟩ : MethodName)) ∈ tb := List.mem_filter.mpr ⟨List.mem_of_getElem? (i := 250) (by decide +kernel), by decide +kernel⟩
theorem tw_251 : (Cond.static (⟨"HeapSteps", "millionthsOf", "(JJ)J"⟩ : MethodName)) ∈ tb := List.mem_filter.mpr ⟨List.mem_of_getElem? (i := 251) (by decide +kernel), by decide +kernel⟩
theorem tw_252 : (Cond.code (⟨"HeapSteps", "millionthsOf", "(JJ)J"⟩ : MethodName) prog_1_method_23_code (4 : Nat) (Option.some FieldType.long)) ∈ tb := List.mem_filter.mpr ⟨List.mem_of_getElem? (i := 252) (by decide +kernel), by decide +kernel⟩
theorem tw_253 : (Cond.constantLong "HeapSteps" (127 : Nat) (1000000 : Int64)) ∈ tb := List.mem_filter.mpr ⟨List.mem_of_getElem? (i := 253) (by decide +kernel), by decide +kernel⟩
theorem tw_254 : (Cond.constantLong "HeapSteps" (170 : Nat) (1000 : Int64)) ∈ tb := List.mem_filter.mpr ⟨List.mem_of_getElem? (i := 254) (by decide +kernel), by decide +kernel⟩
theorem tw_255 : (Cond.methodLink "HeapSteps" (146 : Nat) (⟨"HeapSteps", "loseHeat", "(LHeapSteps$Layer;)V"⟩ : MethodName)) ∈ tb := List.mem_filter.mpr ⟨List.mem_of_getElem? (i := 255) (by decide +kernel), by decide +kernel⟩
theorem tw_257 : (Cond.instanceMethod (⟨"HeapSteps", "loseHeat", "(LHeapSteps$Layer;)V"⟩ : MethodName)) ∈ tb := List.mem_filter.mpr ⟨List.mem_of_getElem? (i := 257) (by decide +kernel), by decide +kernel⟩
theorem tw_258 : (Cond.code (⟨"HeapSteps", "loseHeat", "(LHeapSteps$Layer;)V"⟩ : MethodName) prog_1_method_32_code (4 : Nat) (Option.none : Option FieldType)) ∈ tb := List.mem_filter.mpr ⟨List.mem_of_getElem? (i := 258) (by decide +kernel), by decide +kernel⟩
theorem tw_259 : (Cond.methodLink "HeapSteps" (149 : Nat) (⟨"HeapSteps", "driveOff", "(LHeapSteps$Layer;)V"⟩ : MethodName)) ∈ tb := List.mem_filter.mpr ⟨List.mem_of_getElem? (i := 259) (by decide +kernel), by decide +kernel⟩
theorem tw_261 : (Cond.instanceMethod (⟨"HeapSteps", "driveOff", "(LHeapSteps$Layer;)V"⟩ : MethodName)) ∈ tb := List.mem_filter.mpr ⟨List.mem_of_getElem? (i := 261) (by decide +kernel), by decide +kernel⟩
theorem tw_262 : (Cond.code (⟨"HeapSteps", "driveOff", "(LHeapSteps$Layer;)V"⟩ : MethodName) prog_1_method_33_code (6 : Nat) (Option.none : Option FieldType)) ∈ tb := List.mem_filter.mpr ⟨List.mem_of_getElem? (i := 262) (by decide +kernel), by decide +kernel⟩
theorem tw_263 : (Cond.constantLong "HeapSteps" (172 : Nat) (600 : Int64)) ∈ tb := List.mem_filter.mpr ⟨List.mem_of_getElem? (i := 263) (by decide +kernel), by decide +kernel⟩
theorem tw_264 : (Cond.methodLink "HeapSteps" (129 : Nat) (⟨"java/lang/Math", "min", "(JJ)J"⟩ : MethodName)) ∈ tb := List.mem_filter.mpr ⟨List.mem_of_getElem? (i := 264) (by decide +kernel), by decide +kernel⟩
theorem tw_265 : (Cond.static (⟨"java/lang/Math", "min", "(JJ)J"⟩ : MethodName)) ∈ tb := List.mem_filter.mpr ⟨List.mem_of_getElem? (i := 265) (by decide +kernel), by decide +kernel⟩
theorem tw_266 : (Cond.code (⟨"java/lang/Math", "min", "(JJ)J"⟩ : MethodName) prog_7_method_70_code (4 : Nat) (Option.some FieldType.long)) ∈ tb := List.mem_filter.mpr ⟨List.mem_of_getElem? (i := 266) (by decide +kernel), by decide +kernel⟩
theorem tw_267 : (Cond.methodLink "HeapSteps" (152 : Nat) (⟨"HeapSteps$Layer", "takeSurplus", "()J"⟩ : MethodName)) ∈ tb := List.mem_filter.mpr ⟨List.mem_of_getElem? (i := 267) (by decide +kernel), by decide +kernel⟩
theorem tw_268 : (Cond.instanceMethod (⟨"HeapSteps$Layer", "takeSurplus", "()J"⟩ : MethodName)) ∈ tb := List.mem_filter.mpr ⟨List.mem_of_getElem? (i := 268) (by decide +kernel), by decide +kernel⟩
theorem tw_269 : (Cond.selects "HeapSteps$Layer" (⟨"HeapSteps$Layer", "takeSurplus", "()J"⟩ : MethodName) (⟨"HeapSteps$Layer", "takeSurplus", "()J"⟩ : MethodName)) ∈ tb := List.mem_filter.mpr ⟨List.mem_of_getElem? (i := 269) (by decide +kernel), by decide +kernel⟩
theorem tw_270 : (Cond.code (⟨"HeapSteps$Layer", "takeSurplus", "()J"⟩ : MethodName) prog_4_method_4_code (3 : Nat) (Option.some FieldType.long)) ∈ tb := List.mem_filter.mpr ⟨List.mem_of_getElem? (i := 270) (by decide +kernel), by decide +kernel⟩
theorem tw_271 : (Cond.methodLink "HeapSteps$Layer" (27 : Nat) (⟨"java/lang/Math", "max", "(JJ)J"⟩ : MethodName)) ∈ tb := List.mem_filter.mpr ⟨List.mem_of_getElem? (i := 271) (by decide +kernel), by decide +kernel⟩
theorem tw_272 : (Cond.methodLink "HeapSteps" (155 : Nat) (⟨"HeapSteps$Fan", "adjust", "(J)V"⟩ : MethodName)) ∈ tb := List.mem_filter.mpr ⟨List.mem_of_getElem? (i := 272) (by decide +kernel), by decide +kernel⟩
theorem tw_273 : (Cond.instanceMethod (⟨"HeapSteps$Fan", "adjust", "(J)V"⟩ : MethodName)) ∈ tb := List.mem_filter.mpr ⟨List.mem_of_getElem? (i := 273) (by decide +kernel), by decide +kernel⟩
theorem tw_274 : (Cond.selects "HeapSteps$Fan" (⟨"HeapSteps$Fan", "adjust", "(J)V"⟩ : MethodName) (⟨"HeapSteps$Fan", "adjust", "(J)V"⟩ : MethodName)) ∈ tb := List.mem_filter.mpr ⟨List.mem_of_getElem? (i := 274) (by decide +kernel), by decide +kernel⟩
theorem tw_275 : (Cond.code (⟨"HeapSteps$Fan", "adjust", "(J)V"⟩ : MethodName) prog_2_method_3_code (5 : Nat) (Option.none : Option FieldType)) ∈ tb := List.mem_filter.mpr ⟨List.mem_of_getElem? (i := 275) (by decide +kernel), by decide +kernel⟩
theorem tw_276 : (Cond.constantLong "HeapSteps$Fan" (32 : Nat) (-1000000000 : Int64)) ∈ tb := List.mem_filter.mpr ⟨List.mem_of_getElem? (i := 276) (by decide +kernel), by decide +kernel⟩
theorem tw_277 : (Cond.constantLong "HeapSteps$Fan" (34 : Nat) (1000000000 : Int64)) ∈ tb := List.mem_filter.mpr ⟨List.mem_of_getElem? (i := 277) (by decide +kernel), by decide +kernel⟩
theorem tn_278 : (Cond.methodLinkNest "HeapSteps$Fan" (36 : Nat) (⟨"HeapSteps", "cut", "(JJJ)J"⟩ : MethodName) "HeapSteps") ∈ lw_tbl := List.mem_of_getElem? (i := 278) (by decide +kernel)
theorem tw_279 : (Cond.static (⟨"HeapSteps", "cut", "(JJJ)J"⟩ : MethodName)) ∈ tb := List.mem_filter.mpr ⟨List.mem_of_getElem? (i := 279) (by decide +kernel), by decide +kernel⟩
theorem tw_280 : (Cond.code (⟨"HeapSteps", "cut", "(JJJ)J"⟩ : MethodName) prog_1_method_24_code (6 : Nat) (Option.some FieldType.long)) ∈ tb := List.mem_filter.mpr ⟨List.mem_of_getElem? (i := 280) (by decide +kernel), by decide +kernel⟩
theorem tw_281 : (Cond.constantLong "HeapSteps$Fan" (40 : Nat) (1000 : Int64)) ∈ tb := List.mem_filter.mpr ⟨List.mem_of_getElem? (i := 281) (by decide +kernel), by decide +kernel⟩
theorem tw_282 : (Cond.methodLink "HeapSteps$Fan" (42 : Nat) (⟨"java/lang/Math", "floorDiv", "(JJ)J"⟩ : MethodName)) ∈ tb := List.mem_filter.mpr ⟨List.mem_of_getElem? (i := 282) (by decide +kernel), by decide +kernel⟩
theorem tw_283 : (Cond.static (⟨"java/lang/Math", "floorDiv", "(JJ)J"⟩ : MethodName)) ∈ tb := List.mem_filter.mpr ⟨List.mem_of_getElem? (i := 283) (by decide +kernel), by decide +kernel⟩
theorem tw_284 : (Cond.code (⟨"java/lang/Math", "floorDiv", "(JJ)J"⟩ : MethodName) prog_7_method_49_code (6 : Nat) (Option.some FieldType.long)) ∈ tb := List.mem_filter.mpr ⟨List.mem_of_getElem? (i := 284) (by decide +kernel), by decide +kernel⟩
theorem tw_285 : (Cond.methodLink "HeapStepsLaw" (69 : Nat) (⟨"HeapSteps", "left", "(II)J"⟩ : MethodName)) ∈ tb := List.mem_filter.mpr ⟨List.mem_of_getElem? (i := 285) (by decide +kernel), by decide +kernel⟩
theorem tw_286 : (Cond.instanceMethod (⟨"HeapSteps", "left", "(II)J"⟩ : MethodName)) ∈ tb := List.mem_filter.mpr ⟨List.mem_of_getElem? (i := 286) (by decide +kernel), by decide +kernel⟩
theorem tw_287 : (Cond.selects "HeapSteps" (⟨"HeapSteps", "left", "(II)J"⟩ : MethodName) (⟨"HeapSteps", "left", "(II)J"⟩ : MethodName)) ∈ tb := List.mem_filter.mpr ⟨List.mem_of_getElem? (i := 287) (by decide +kernel), by decide +kernel⟩
theorem tw_288 : (Cond.code (⟨"HeapSteps", "left", "(II)J"⟩ : MethodName) prog_1_method_13_code (4 : Nat) (Option.some FieldType.long)) ∈ tb := List.mem_filter.mpr ⟨List.mem_of_getElem? (i := 288) (by decide +kernel), by decide +kernel⟩
theorem tw_289 : (Cond.constantLong "HeapSteps" (105 : Nat) (-1 : Int64)) ∈ tb := List.mem_filter.mpr ⟨List.mem_of_getElem? (i := 289) (by decide +kernel), by decide +kernel⟩
theorem tw_290 : (Cond.methodLink "HeapStepsLaw" (74 : Nat) (⟨"HeapSteps", "wet", "(I)J"⟩ : MethodName)) ∈ tb := List.mem_filter.mpr ⟨List.mem_of_getElem? (i := 290) (by decide +kernel), by decide +kernel⟩
theorem tw_291 : (Cond.instanceMethod (⟨"HeapSteps", "wet", "(I)J"⟩ : MethodName)) ∈ tb := List.mem_filter.mpr ⟨List.mem_of_getElem? (i := 291) (by decide +kernel), by decide +kernel⟩
theorem tw_292 : (Cond.selects "HeapSteps" (⟨"HeapSteps", "wet", "(I)J"⟩ : MethodName) (⟨"HeapSteps", "wet", "(I)J"⟩ : MethodName)) ∈ tb := List.mem_filter.mpr ⟨List.mem_of_getElem? (i := 292) (by decide +kernel), by decide +kernel⟩
theorem tw_293 : (Cond.code (⟨"HeapSteps", "wet", "(I)J"⟩ : MethodName) prog_1_method_14_code (3 : Nat) (Option.some FieldType.long)) ∈ tb := List.mem_filter.mpr ⟨List.mem_of_getElem? (i := 293) (by decide +kernel), by decide +kernel⟩
theorem tw_294 : (Cond.methodLink "HeapStepsLaw" (79 : Nat) (⟨"HeapSteps", "warmth", "(I)J"⟩ : MethodName)) ∈ tb := List.mem_filter.mpr ⟨List.mem_of_getElem? (i := 294) (by decide +kernel), by decide +kernel⟩
theorem tw_295 : (Cond.instanceMethod (⟨"HeapSteps", "warmth", "(I)J"⟩ : MethodName)) ∈ tb := List.mem_filter.mpr ⟨List.mem_of_getElem? (i := 295) (by decide +kernel), by decide +kernel⟩
theorem tw_296 : (Cond.selects "HeapSteps" (⟨"HeapSteps", "warmth", "(I)J"⟩ : MethodName) (⟨"HeapSteps", "warmth", "(I)J"⟩ : MethodName)) ∈ tb := List.mem_filter.mpr ⟨List.mem_of_getElem? (i := 296) (by decide +kernel), by decide +kernel⟩
theorem tw_297 : (Cond.code (⟨"HeapSteps", "warmth", "(I)J"⟩ : MethodName) prog_1_method_15_code (3 : Nat) (Option.some FieldType.long)) ∈ tb := List.mem_filter.mpr ⟨List.mem_of_getElem? (i := 297) (by decide +kernel), by decide +kernel⟩
theorem tw_298 : (Cond.methodLink "HeapStepsLaw" (83 : Nat) (⟨"HeapSteps", "air", "()I"⟩ : MethodName)) ∈ tb := List.mem_filter.mpr ⟨List.mem_of_getElem? (i := 298) (by decide +kernel), by decide +kernel⟩
theorem tw_299 : (Cond.instanceMethod (⟨"HeapSteps", "air", "()I"⟩ : MethodName)) ∈ tb := List.mem_filter.mpr ⟨List.mem_of_getElem? (i := 299) (by decide +kernel), by decide +kernel⟩
theorem tw_300 : (Cond.selects "HeapSteps" (⟨"HeapSteps", "air", "()I"⟩ : MethodName) (⟨"HeapSteps", "air", "()I"⟩ : MethodName)) ∈ tb := List.mem_filter.mpr ⟨List.mem_of_getElem? (i := 300) (by decide +kernel), by decide +kernel⟩
theorem tw_301 : (Cond.code (⟨"HeapSteps", "air", "()I"⟩ : MethodName) prog_1_method_16_code (1 : Nat) (Option.some FieldType.int)) ∈ tb := List.mem_filter.mpr ⟨List.mem_of_getElem? (i := 301) (by decide +kernel), by decide +kernel⟩
theorem tw_302 : (Cond.methodLink "HeapStepsLaw" (88 : Nat) (⟨"HeapSteps", "turn", "()I"⟩ : MethodName)) ∈ tb := List.mem_filter.mpr ⟨List.mem_of_getElem? (i := 302) (by decide +kernel), by decide +kernel⟩
theorem tw_303 : (Cond.instanceMethod (⟨"HeapSteps", "turn", "()I"⟩ : MethodName)) ∈ tb := List.mem_filter.mpr ⟨List.mem_of_getElem? (i := 303) (by decide +kernel), by decide +kernel⟩
theorem tw_304 : (Cond.selects "HeapSteps" (⟨"HeapSteps", "turn", "()I"⟩ : MethodName) (⟨"HeapSteps", "turn", "()I"⟩ : MethodName)) ∈ tb := List.mem_filter.mpr ⟨List.mem_of_getElem? (i := 304) (by decide +kernel), by decide +kernel⟩
theorem tw_305 : (Cond.code (⟨"HeapSteps", "turn", "()I"⟩ : MethodName) prog_1_method_17_code (2 : Nat) (Option.some FieldType.int)) ∈ tb := List.mem_filter.mpr ⟨List.mem_of_getElem? (i := 305) (by decide +kernel), by decide +kernel⟩
theorem tw_306 : (Cond.methodLink "HeapSteps" (116 : Nat) (⟨"HeapSteps", "shareOut", "(I)V"⟩ : MethodName)) ∈ tb := List.mem_filter.mpr ⟨List.mem_of_getElem? (i := 306) (by decide +kernel), by decide +kernel⟩
theorem tw_308 : (Cond.instanceMethod (⟨"HeapSteps", "shareOut", "(I)V"⟩ : MethodName)) ∈ tb := List.mem_filter.mpr ⟨List.mem_of_getElem? (i := 308) (by decide +kernel), by decide +kernel⟩
theorem tw_309 : (Cond.code (⟨"HeapSteps", "shareOut", "(I)V"⟩ : MethodName) prog_1_method_35_code (10 : Nat) (Option.none : Option FieldType)) ∈ tb := List.mem_filter.mpr ⟨List.mem_of_getElem? (i := 309) (by decide +kernel), by decide +kernel⟩
theorem tw_310 : (Cond.methodLink "HeapSteps" (174 : Nat) (⟨"HeapSteps", "inAllLayers", "(I)J"⟩ : MethodName)) ∈ tb := List.mem_filter.mpr ⟨List.mem_of_getElem? (i := 310) (by decide +kernel), by decide +kernel⟩
theorem tw_312 : (Cond.instanceMethod (⟨"HeapSteps", "inAllLayers", "(I)J"⟩ : MethodName)) ∈ tb := List.mem_filter.mpr ⟨List.mem_of_getElem? (i := 312) (by decide +kernel), by decide +kernel⟩
theorem tw_313 : (Cond.code (⟨"HeapSteps", "inAllLayers", "(I)J"⟩ : MethodName) prog_1_method_34_code (8 : Nat) (Option.some FieldType.long)) ∈ tb := List.mem_filter.mpr ⟨List.mem_of_getElem? (i := 313) (by decide +kernel), by decide +kernel⟩
theorem tw_314 : (Cond.methodLink "HeapStepsLaw" (92 : Nat) (⟨"HeapSteps", "gone", "(I)J"⟩ : MethodName)) ∈ tb := List.mem_filter.mpr ⟨List.mem_of_getElem? (i := 314) (by decide +kernel), by decide +kernel⟩
theorem tw_315 : (Cond.instanceMethod (⟨"HeapSteps", "gone", "(I)J"⟩ : MethodName)) ∈ tb := List.mem_filter.mpr ⟨List.mem_of_getElem? (i := 315) (by decide +kernel), by decide +kernel⟩
theorem tw_316 : (Cond.selects "HeapSteps" (⟨"HeapSteps", "gone", "(I)J"⟩ : MethodName) (⟨"HeapSteps", "gone", "(I)J"⟩ : MethodName)) ∈ tb := List.mem_filter.mpr ⟨List.mem_of_getElem? (i := 316) (by decide +kernel), by decide +kernel⟩
theorem tw_317 : (Cond.code (⟨"HeapSteps", "gone", "(I)J"⟩ : MethodName) prog_1_method_18_code (2 : Nat) (Option.some FieldType.long)) ∈ tb := List.mem_filter.mpr ⟨List.mem_of_getElem? (i := 317) (by decide +kernel), by decide +kernel⟩
theorem tw_318 : (Cond.methodLink "HeapStepsLaw" (96 : Nat) (⟨"HeapSteps", "balance", "(I)J"⟩ : MethodName)) ∈ tb := List.mem_filter.mpr ⟨List.mem_of_getElem? (i := 318) (by decide +kernel), by decide +kernel⟩
theorem tw_319 : (Cond.instanceMethod (⟨"HeapSteps", "balance", "(I)J"⟩ : MethodName)) ∈ tb := List.mem_filter.mpr ⟨List.mem_of_getElem? (i := 319) (by decide +kernel), by decide +kernel⟩
theorem tw_320 : (Cond.selects "HeapSteps" (⟨"HeapSteps", "balance", "(I)J"⟩ : MethodName) (⟨"HeapSteps", "balance", "(I)J"⟩ : MethodName)) ∈ tb := List.mem_filter.mpr ⟨List.mem_of_getElem? (i := 320) (by decide +kernel), by decide +kernel⟩
theorem tw_321 : (Cond.code (⟨"HeapSteps", "balance", "(I)J"⟩ : MethodName) prog_1_method_19_code (2 : Nat) (Option.some FieldType.long)) ∈ tb := List.mem_filter.mpr ⟨List.mem_of_getElem? (i := 321) (by decide +kernel), by decide +kernel⟩
theorem tw_322 : (Cond.methodLink "HeapSteps" (120 : Nat) (⟨"HeapSteps", "putInLessThere", "(I)J"⟩ : MethodName)) ∈ tb := List.mem_filter.mpr ⟨List.mem_of_getElem? (i := 322) (by decide +kernel), by decide +kernel⟩
theorem tw_324 : (Cond.instanceMethod (⟨"HeapSteps", "putInLessThere", "(I)J"⟩ : MethodName)) ∈ tb := List.mem_filter.mpr ⟨List.mem_of_getElem? (i := 324) (by decide +kernel), by decide +kernel⟩
theorem tw_325 : (Cond.code (⟨"HeapSteps", "putInLessThere", "(I)J"⟩ : MethodName) prog_1_method_36_code (2 : Nat) (Option.some FieldType.long)) ∈ tb := List.mem_filter.mpr ⟨List.mem_of_getElem? (i := 325) (by decide +kernel), by decide +kernel⟩
theorem tw_326 : (Cond.methodLink "HeapStepsLaw" (100 : Nat) (⟨"HeapSteps", "batch", "()J"⟩ : MethodName)) ∈ tb := List.mem_filter.mpr ⟨List.mem_of_getElem? (i := 326) (by decide +kernel), by decide +kernel⟩
theorem tw_327 : (Cond.instanceMethod (⟨"HeapSteps", "batch", "()J"⟩ : MethodName)) ∈ tb := List.mem_filter.mpr ⟨List.mem_of_getElem? (i := 327) (by decide +kernel), by decide +kernel⟩
theorem tw_328 : (Cond.selects "HeapSteps" (⟨"HeapSteps", "batch", "()J"⟩ : MethodName) (⟨"HeapSteps", "batch", "()J"⟩ : MethodName)) ∈ tb := List.mem_filter.mpr ⟨List.mem_of_getElem? (i := 328) (by decide +kernel), by decide +kernel⟩
theorem tw_329 : (Cond.code (⟨"HeapSteps", "batch", "()J"⟩ : MethodName) prog_1_method_20_code (8 : Nat) (Option.some FieldType.long)) ∈ tb := List.mem_filter.mpr ⟨List.mem_of_getElem? (i := 329) (by decide +kernel), by decide +kernel⟩
theorem tw_330 : (Cond.methodLink "HeapSteps" (124 : Nat) (⟨"HeapSteps$Layer", "mass", "()J"⟩ : MethodName)) ∈ tb := List.mem_filter.mpr ⟨List.mem_of_getElem? (i := 330) (by decide +kernel), by decide +kernel⟩
theorem tw_331 : (Cond.methodLink "HeapStepsLaw" (9 : Nat) (⟨"HeapStepsLaw", "cell", "([II)I"⟩ : MethodName)) ∈ tb := List.mem_filter.mpr ⟨List.mem_of_getElem? (i := 331) (by decide +kernel), by decide +kernel⟩
theorem tw_332 : (Cond.static (⟨"HeapStepsLaw", "cell", "([II)I"⟩ : MethodName)) ∈ tb := List.mem_filter.mpr ⟨List.mem_of_getElem? (i := 332) (by decide +kernel), by decide +kernel⟩
theorem tw_333 : (Cond.code (⟨"HeapStepsLaw", "cell", "([II)I"⟩ : MethodName) method_2_code (2 : Nat) (Option.some FieldType.int)) ∈ tb := List.mem_filter.mpr ⟨List.mem_of_getElem? (i := 333) (by decide +kernel), by decide +kernel⟩
theorem tw_334 : (Cond.classLink "HeapStepsLaw" (18 : Nat) "HeapStepsModel") ∈ tb := List.mem_filter.mpr ⟨List.mem_of_getElem? (i := 334) (by decide +kernel), by decide +kernel⟩
theorem tw_335 : (Cond.instantiable "HeapStepsModel" (24 : Nat)) ∈ tb := List.mem_filter.mpr ⟨List.mem_of_getElem? (i := 335) (by decide +kernel), by decide +kernel⟩
theorem tw_336 : (Cond.methodLink "HeapStepsLaw" (20 : Nat) (⟨"HeapStepsModel", "<init>", "(I)V"⟩ : MethodName)) ∈ tb := List.mem_filter.mpr ⟨List.mem_of_getElem? (i := 336) (by decide +kernel), by decide +kernel⟩
theorem tw_337 : (Cond.instanceMethod (⟨"HeapStepsModel", "<init>", "(I)V"⟩ : MethodName)) ∈ tb := List.mem_filter.mpr ⟨List.mem_of_getElem? (i := 337) (by decide +kernel), by decide +kernel⟩
theorem tw_338 : (Cond.code (⟨"HeapStepsModel", "<init>", "(I)V"⟩ : MethodName) prog_6_method_1_code (3 : Nat) (Option.none : Option FieldType)) ∈ tb := List.mem_filter.mpr ⟨List.mem_of_getElem? (i := 338) (by decide +kernel), by decide +kernel⟩
theorem tw_339 : (Cond.methodLink "HeapStepsModel" (1 : Nat) (⟨"java/lang/Object", "<init>", "()V"⟩ : MethodName)) ∈ tb := List.mem_filter.mpr ⟨List.mem_of_getElem? (i := 339) (by decide +kernel), by decide +kernel⟩
theorem tw_340 : (Cond.constantLong "HeapStepsModel" (41 : Nat) (1000000000 : Int64)) ∈ tb := List.mem_filter.mpr ⟨List.mem_of_getElem? (i := 340) (by decide +kernel), by decide +kernel⟩
theorem tw_341 : (Cond.fieldLink "HeapStepsModel" (56 : Nat) "HeapStepsModel" "layers" "I") ∈ tb := List.mem_filter.mpr ⟨List.mem_of_getElem? (i := 341) (by decide +kernel), by decide +kernel⟩
theorem tw_342 : (Cond.fieldLink "HeapStepsModel" (7 : Nat) "HeapStepsModel" "parts" "[J") ∈ tb := List.mem_filter.mpr ⟨List.mem_of_getElem? (i := 342) (by decide +kernel), by decide +kernel⟩
theorem tw_343 : (Cond.fieldLink "HeapStepsModel" (13 : Nat) "HeapStepsModel" "waters" "[J") ∈ tb := List.mem_filter.mpr ⟨List.mem_of_getElem? (i := 343) (by decide +kernel), by decide +kernel⟩
theorem tw_344 : (Cond.fieldLink "HeapStepsModel" (16 : Nat) "HeapStepsModel" "heats" "[J") ∈ tb := List.mem_filter.mpr ⟨List.mem_of_getElem? (i := 344) (by decide +kernel), by decide +kernel⟩
theorem tw_345 : (Cond.fieldLink "HeapStepsModel" (19 : Nat) "HeapStepsModel" "dry" "[J") ∈ tb := List.mem_filter.mpr ⟨List.mem_of_getElem? (i := 345) (by decide +kernel), by decide +kernel⟩
theorem tw_346 : (Cond.fieldLink "HeapStepsModel" (22 : Nat) "HeapStepsModel" "holds" "[J") ∈ tb := List.mem_filter.mpr ⟨List.mem_of_getElem? (i := 346) (by decide +kernel), by decide +kernel⟩
theorem tw_347 : (Cond.fieldLink "HeapStepsModel" (25 : Nat) "HeapStepsModel" "rowCounts" "[I") ∈ tb := List.mem_filter.mpr ⟨List.mem_of_getElem? (i := 347) (by decide +kernel), by decide +kernel⟩
theorem tw_348 : (Cond.fieldLink "HeapStepsModel" (29 : Nat) "HeapStepsModel" "rowWarmths" "[I") ∈ tb := List.mem_filter.mpr ⟨List.mem_of_getElem? (i := 348) (by decide +kernel), by decide +kernel⟩
theorem tw_349 : (Cond.fieldLink "HeapStepsModel" (32 : Nat) "HeapStepsModel" "rowRates" "[I") ∈ tb := List.mem_filter.mpr ⟨List.mem_of_getElem? (i := 349) (by decide +kernel), by decide +kernel⟩
theorem tw_350 : (Cond.fieldLink "HeapStepsModel" (35 : Nat) "HeapStepsModel" "heatYields" "[I") ∈ tb := List.mem_filter.mpr ⟨List.mem_of_getElem? (i := 350) (by decide +kernel), by decide +kernel⟩
theorem tw_351 : (Cond.fieldLink "HeapStepsModel" (38 : Nat) "HeapStepsModel" "waterYields" "[I") ∈ tb := List.mem_filter.mpr ⟨List.mem_of_getElem? (i := 351) (by decide +kernel), by decide +kernel⟩
theorem tw_352 : (Cond.fieldLink "HeapStepsModel" (79 : Nat) "HeapStepsModel" "rain" "I") ∈ tb := List.mem_filter.mpr ⟨List.mem_of_getElem? (i := 352) (by decide +kernel), by decide +kernel⟩
theorem tw_353 : (Cond.fieldLink "HeapStepsModel" (82 : Nat) "HeapStepsModel" "loss" "I") ∈ tb := List.mem_filter.mpr ⟨List.mem_of_getElem? (i := 353) (by decide +kernel), by decide +kernel⟩
theorem tw_354 : (Cond.fieldLink "HeapStepsModel" (87 : Nat) "HeapStepsModel" "hasFan" "Z") ∈ tb := List.mem_filter.mpr ⟨List.mem_of_getElem? (i := 354) (by decide +kernel), by decide +kernel⟩
theorem tw_355 : (Cond.fieldLink "HeapStepsModel" (91 : Nat) "HeapStepsModel" "target" "I") ∈ tb := List.mem_filter.mpr ⟨List.mem_of_getElem? (i := 355) (by decide +kernel), by decide +kernel⟩
theorem tw_356 : (Cond.fieldLink "HeapStepsModel" (94 : Nat) "HeapStepsModel" "byNow" "I") ∈ tb := List.mem_filter.mpr ⟨List.mem_of_getElem? (i := 356) (by decide +kernel), by decide +kernel⟩
theorem tw_357 : (Cond.fieldLink "HeapStepsModel" (97 : Nat) "HeapStepsModel" "bySum" "I") ∈ tb := List.mem_filter.mpr ⟨List.mem_of_getElem? (i := 357) (by decide +kernel), by decide +kernel⟩
theorem tw_358 : (Cond.fieldLink "HeapStepsModel" (100 : Nat) "HeapStepsModel" "sum" "J") ∈ tb := List.mem_filter.mpr ⟨List.mem_of_getElem? (i := 358) (by decide +kernel), by decide +kernel⟩
theorem tw_359 : (Cond.fieldLink "HeapStepsModel" (118 : Nat) "HeapStepsModel" "air" "I") ∈ tb := List.mem_filter.mpr ⟨List.mem_of_getElem? (i := 359) (by decide +kernel), by decide +kernel⟩
theorem tw_360 : (Cond.fieldLink "HeapStepsModel" (43 : Nat) "HeapStepsModel" "limit" "J") ∈ tb := List.mem_filter.mpr ⟨List.mem_of_getElem? (i := 360) (by decide +kernel), by decide +kernel⟩
theorem tw_361 : (Cond.fieldLink "HeapStepsModel" (154 : Nat) "HeapStepsModel" "turns" "I") ∈ tb := List.mem_filter.mpr ⟨List.mem_of_getElem? (i := 361) (by decide +kernel), by decide +kernel⟩
theorem tw_362 : (Cond.fieldLink "HeapStepsModel" (47 : Nat) "HeapStepsModel" "gone" "[J") ∈ tb := List.mem_filter.mpr ⟨List.mem_of_getElem? (i := 362) (by decide +kernel), by decide +kernel⟩
theorem tw_363 : (Cond.fieldLink "HeapStepsModel" (50 : Nat) "HeapStepsModel" "put" "[J") ∈ tb := List.mem_filter.mpr ⟨List.mem_of_getElem? (i := 363) (by decide +kernel), by decide +kernel⟩
theorem tw_364 : (Cond.fieldLink "HeapStepsModel" (53 : Nat) "HeapStepsModel" "taken" "[J") ∈ tb := List.mem_filter.mpr ⟨List.mem_of_getElem? (i := 364) (by decide +kernel), by decide +kernel⟩
theorem tw_365 : (Cond.laysFinal "HeapStepsModel" "HeapStepsModel" "layers" "I") ∈ tb := List.mem_filter.mpr ⟨List.mem_of_getElem? (i := 365) (by decide +kernel), by decide +kernel⟩
theorem tw_367 : (Cond.laysFinal "HeapStepsModel" "HeapStepsModel" "parts" "[J") ∈ tb := List.mem_filter.mpr ⟨List.mem_of_getElem? (i := 367) (by decide +kernel), by decide +kernel⟩
theorem tw_369 : (Cond.laysFinal "HeapStepsModel" "HeapStepsModel" "waters" "[J") ∈ tb := List.mem_filter.mpr ⟨List.mem_of_getElem? (i := 369) (by decide +kernel), by decide +kernel⟩
theorem tw_371 : (Cond.laysFinal "HeapStepsModel" "HeapStepsModel" "heats" "[J") ∈ tb := List.mem_filter.mpr ⟨List.mem_of_getElem? (i := 371) (by decide +kernel), by decide +kernel⟩
theorem tw_373 : (Cond.laysFinal "HeapStepsModel" "HeapStepsModel" "dry" "[J") ∈ tb := List.mem_filter.mpr ⟨List.mem_of_getElem? (i := 373) (by decide +kernel), by decide +kernel⟩
theorem tw_375 : (Cond.laysFinal "HeapStepsModel" "HeapStepsModel" "holds" "[J") ∈ tb := List.mem_filter.mpr ⟨List.mem_of_getElem? (i := 375) (by decide +kernel), by decide +kernel⟩
theorem tw_377 : (Cond.laysFinal "HeapStepsModel" "HeapStepsModel" "rowCounts" "[I") ∈ tb := List.mem_filter.mpr ⟨List.mem_of_getElem? (i := 377) (by decide +kernel), by decide +kernel⟩
theorem tw_379 : (Cond.laysFinal "HeapStepsModel" "HeapStepsModel" "rowWarmths" "[I") ∈ tb := List.mem_filter.mpr ⟨List.mem_of_getElem? (i := 379) (by decide +kernel), by decide +kernel⟩
theorem tw_381 : (Cond.laysFinal "HeapStepsModel" "HeapStepsModel" "rowRates" "[I") ∈ tb := List.mem_filter.mpr ⟨List.mem_of_getElem? (i := 381) (by decide +kernel), by decide +kernel⟩
theorem tw_383 : (Cond.laysFinal "HeapStepsModel" "HeapStepsModel" "heatYields" "[I") ∈ tb := List.mem_filter.mpr ⟨List.mem_of_getElem? (i := 383) (by decide +kernel), by decide +kernel⟩
theorem tw_385 : (Cond.laysFinal "HeapStepsModel" "HeapStepsModel" "waterYields" "[I") ∈ tb := List.mem_filter.mpr ⟨List.mem_of_getElem? (i := 385) (by decide +kernel), by decide +kernel⟩
theorem tw_387 : (Cond.lays "HeapStepsModel" "HeapStepsModel" "rain" "I") ∈ tb := List.mem_filter.mpr ⟨List.mem_of_getElem? (i := 387) (by decide +kernel), by decide +kernel⟩
theorem tw_389 : (Cond.lays "HeapStepsModel" "HeapStepsModel" "loss" "I") ∈ tb := List.mem_filter.mpr ⟨List.mem_of_getElem? (i := 389) (by decide +kernel), by decide +kernel⟩
theorem tw_391 : (Cond.lays "HeapStepsModel" "HeapStepsModel" "hasFan" "Z") ∈ tb := List.mem_filter.mpr ⟨List.mem_of_getElem? (i := 391) (by decide +kernel), by decide +kernel⟩
theorem tw_393 : (Cond.lays "HeapStepsModel" "HeapStepsModel" "target" "I") ∈ tb := List.mem_filter.mpr ⟨List.mem_of_getElem? (i := 393) (by decide +kernel), by decide +kernel⟩
theorem tw_395 : (Cond.lays "HeapStepsModel" "HeapStepsModel" "byNow" "I") ∈ tb := List.mem_filter.mpr ⟨List.mem_of_getElem? (i := 395) (by decide +kernel), by decide +kernel⟩
theorem tw_397 : (Cond.lays "HeapStepsModel" "HeapStepsModel" "bySum" "I") ∈ tb := List.mem_filter.mpr ⟨List.mem_of_getElem? (i := 397) (by decide +kernel), by decide +kernel⟩
theorem tw_399 : (Cond.lays "HeapStepsModel" "HeapStepsModel" "sum" "J") ∈ tb := List.mem_filter.mpr ⟨List.mem_of_getElem? (i := 399) (by decide +kernel), by decide +kernel⟩
theorem tw_401 : (Cond.lays "HeapStepsModel" "HeapStepsModel" "air" "I") ∈ tb := List.mem_filter.mpr ⟨List.mem_of_getElem? (i := 401) (by decide +kernel), by decide +kernel⟩
theorem tw_403 : (Cond.lays "HeapStepsModel" "HeapStepsModel" "limit" "J") ∈ tb := List.mem_filter.mpr ⟨List.mem_of_getElem? (i := 403) (by decide +kernel), by decide +kernel⟩
theorem tw_405 : (Cond.lays "HeapStepsModel" "HeapStepsModel" "turns" "I") ∈ tb := List.mem_filter.mpr ⟨List.mem_of_getElem? (i := 405) (by decide +kernel), by decide +kernel⟩
theorem tw_407 : (Cond.laysFinal "HeapStepsModel" "HeapStepsModel" "gone" "[J") ∈ tb := List.mem_filter.mpr ⟨List.mem_of_getElem? (i := 407) (by decide +kernel), by decide +kernel⟩
theorem tw_409 : (Cond.laysFinal "HeapStepsModel" "HeapStepsModel" "put" "[J") ∈ tb := List.mem_filter.mpr ⟨List.mem_of_getElem? (i := 409) (by decide +kernel), by decide +kernel⟩
theorem tw_411 : (Cond.laysFinal "HeapStepsModel" "HeapStepsModel" "taken" "[J") ∈ tb := List.mem_filter.mpr ⟨List.mem_of_getElem? (i := 411) (by decide +kernel), by decide +kernel⟩
theorem tw_414 : (Cond.methodLink "HeapStepsLaw" (25 : Nat) (⟨"HeapStepsModel", "part", "(III)Z"⟩ : MethodName)) ∈ tb := List.mem_filter.mpr ⟨List.mem_of_getElem? (i := 414) (by decide +kernel), by decide +kernel⟩
theorem tw_415 : (Cond.instanceMethod (⟨"HeapStepsModel", "part", "(III)Z"⟩ : MethodName)) ∈ tb := List.mem_filter.mpr ⟨List.mem_of_getElem? (i := 415) (by decide +kernel), by decide +kernel⟩
theorem tw_416 : (Cond.selects "HeapStepsModel" (⟨"HeapStepsModel", "part", "(III)Z"⟩ : MethodName) (⟨"HeapStepsModel", "part", "(III)Z"⟩ : MethodName)) ∈ tb := List.mem_filter.mpr ⟨List.mem_of_getElem? (i := 416) (by decide +kernel), by decide +kernel⟩
theorem tw_417 : (Cond.code (⟨"HeapStepsModel", "part", "(III)Z"⟩ : MethodName) prog_6_method_6_code (4 : Nat) (Option.some FieldType.boolean)) ∈ tb := List.mem_filter.mpr ⟨List.mem_of_getElem? (i := 417) (by decide +kernel), by decide +kernel⟩
theorem tw_418 : (Cond.methodLink "HeapStepsModel" (60 : Nat) (⟨"HeapStepsModel", "isLayer", "(I)Z"⟩ : MethodName)) ∈ tb := List.mem_filter.mpr ⟨List.mem_of_getElem? (i := 418) (by decide +kernel), by decide +kernel⟩
theorem tw_420 : (Cond.instanceMethod (⟨"HeapStepsModel", "isLayer", "(I)Z"⟩ : MethodName)) ∈ tb := List.mem_filter.mpr ⟨List.mem_of_getElem? (i := 420) (by decide +kernel), by decide +kernel⟩
theorem tw_421 : (Cond.code (⟨"HeapStepsModel", "isLayer", "(I)Z"⟩ : MethodName) prog_6_method_4_code (2 : Nat) (Option.some FieldType.boolean)) ∈ tb := List.mem_filter.mpr ⟨List.mem_of_getElem? (i := 421) (by decide +kernel), by decide +kernel⟩
theorem tw_422 : (Cond.methodLink "HeapStepsModel" (64 : Nat) (⟨"HeapStepsModel", "isPart", "(I)Z"⟩ : MethodName)) ∈ tb := List.mem_filter.mpr ⟨List.mem_of_getElem? (i := 422) (by decide +kernel), by decide +kernel⟩
theorem tw_423 : (Cond.static (⟨"HeapStepsModel", "isPart", "(I)Z"⟩ : MethodName)) ∈ tb := List.mem_filter.mpr ⟨List.mem_of_getElem? (i := 423) (by decide +kernel), by decide +kernel⟩
theorem tw_424 : (Cond.code (⟨"HeapStepsModel", "isPart", "(I)Z"⟩ : MethodName) prog_6_method_5_code (1 : Nat) (Option.some FieldType.boolean)) ∈ tb := List.mem_filter.mpr ⟨List.mem_of_getElem? (i := 424) (by decide +kernel), by decide +kernel⟩
theorem tw_425 : (Cond.constantLong "HeapStepsModel" (67 : Nat) (1000000 : Int64)) ∈ tb := List.mem_filter.mpr ⟨List.mem_of_getElem? (i := 425) (by decide +kernel), by decide +kernel⟩
theorem tw_426 : (Cond.methodLink "HeapStepsModel" (69 : Nat) (⟨"HeapStepsModel", "isIn", "(JJJ)Z"⟩ : MethodName)) ∈ tb := List.mem_filter.mpr ⟨List.mem_of_getElem? (i := 426) (by decide +kernel), by decide +kernel⟩
theorem tw_427 : (Cond.static (⟨"HeapStepsModel", "isIn", "(JJJ)Z"⟩ : MethodName)) ∈ tb := List.mem_filter.mpr ⟨List.mem_of_getElem? (i := 427) (by decide +kernel), by decide +kernel⟩
theorem tw_428 : (Cond.code (⟨"HeapStepsModel", "isIn", "(JJJ)Z"⟩ : MethodName) prog_6_method_3_code (6 : Nat) (Option.some FieldType.boolean)) ∈ tb := List.mem_filter.mpr ⟨List.mem_of_getElem? (i := 428) (by decide +kernel), by decide +kernel⟩
theorem tw_429 : (Cond.methodLink "HeapStepsLaw" (30 : Nat) (⟨"HeapStepsModel", "water", "(II)Z"⟩ : MethodName)) ∈ tb := List.mem_filter.mpr ⟨List.mem_of_getElem? (i := 429) (by decide +kernel), by decide +kernel⟩
theorem tw_430 : (Cond.instanceMethod (⟨"HeapStepsModel", "water", "(II)Z"⟩ : MethodName)) ∈ tb := List.mem_filter.mpr ⟨List.mem_of_getElem? (i := 430) (by decide +kernel), by decide +kernel⟩
theorem tw_431 : (Cond.selects "HeapStepsModel" (⟨"HeapStepsModel", "water", "(II)Z"⟩ : MethodName) (⟨"HeapStepsModel", "water", "(II)Z"⟩ : MethodName)) ∈ tb := List.mem_filter.mpr ⟨List.mem_of_getElem? (i := 431) (by decide +kernel), by decide +kernel⟩
theorem tw_432 : (Cond.code (⟨"HeapStepsModel", "water", "(II)Z"⟩ : MethodName) prog_6_method_7_code (3 : Nat) (Option.some FieldType.boolean)) ∈ tb := List.mem_filter.mpr ⟨List.mem_of_getElem? (i := 432) (by decide +kernel), by decide +kernel⟩
theorem tw_433 : (Cond.methodLink "HeapStepsLaw" (34 : Nat) (⟨"HeapStepsModel", "heat", "(II)Z"⟩ : MethodName)) ∈ tb := List.mem_filter.mpr ⟨List.mem_of_getElem? (i := 433) (by decide +kernel), by decide +kernel⟩
theorem tw_434 : (Cond.instanceMethod (⟨"HeapStepsModel", "heat", "(II)Z"⟩ : MethodName)) ∈ tb := List.mem_filter.mpr ⟨List.mem_of_getElem? (i := 434) (by decide +kernel), by decide +kernel⟩
theorem tw_435 : (Cond.selects "HeapStepsModel" (⟨"HeapStepsModel", "heat", "(II)Z"⟩ : MethodName) (⟨"HeapStepsModel", "heat", "(II)Z"⟩ : MethodName)) ∈ tb := List.mem_filter.mpr ⟨List.mem_of_getElem? (i := 435) (by decide +kernel), by decide +kernel⟩
theorem tw_436 : (Cond.code (⟨"HeapStepsModel", "heat", "(II)Z"⟩ : MethodName) prog_6_method_8_code (3 : Nat) (Option.some FieldType.boolean)) ∈ tb := List.mem_filter.mpr ⟨List.mem_of_getElem? (i := 436) (by decide +kernel), by decide +kernel⟩
theorem tw_437 : (Cond.constantLong "HeapStepsModel" (73 : Nat) (1000000000000000 : Int64)) ∈ tb := List.mem_filter.mpr ⟨List.mem_of_getElem? (i := 437) (by decide +kernel), by decide +kernel⟩
theorem tw_438 : (Cond.methodLink "HeapStepsLaw" (38 : Nat) (⟨"HeapStepsModel", "rate", "(III)Z"⟩ : MethodName)) ∈ tb := List.mem_filter.mpr ⟨List.mem_of_getElem? (i := 438) (by decide +kernel), by decide +kernel⟩
theorem tw_439 : (Cond.instanceMethod (⟨"HeapStepsModel", "rate", "(III)Z"⟩ : MethodName)) ∈ tb := List.mem_filter.mpr ⟨List.mem_of_getElem? (i := 439) (by decide +kernel), by decide +kernel⟩
theorem tw_440 : (Cond.selects "HeapStepsModel" (⟨"HeapStepsModel", "rate", "(III)Z"⟩ : MethodName) (⟨"HeapStepsModel", "rate", "(III)Z"⟩ : MethodName)) ∈ tb := List.mem_filter.mpr ⟨List.mem_of_getElem? (i := 440) (by decide +kernel), by decide +kernel⟩
theorem tw_441 : (Cond.code (⟨"HeapStepsModel", "rate", "(III)Z"⟩ : MethodName) prog_6_method_9_code (5 : Nat) (Option.some FieldType.boolean)) ∈ tb := List.mem_filter.mpr ⟨List.mem_of_getElem? (i := 441) (by decide +kernel), by decide +kernel⟩
theorem tw_442 : (Cond.constantLong "HeapStepsModel" (75 : Nat) (100000 : Int64)) ∈ tb := List.mem_filter.mpr ⟨List.mem_of_getElem? (i := 442) (by decide +kernel), by decide +kernel⟩
theorem tw_443 : (Cond.methodLink "HeapStepsLaw" (42 : Nat) (⟨"HeapStepsModel", "yields", "(III)Z"⟩ : MethodName)) ∈ tb := List.mem_filter.mpr ⟨List.mem_of_getElem? (i := 443) (by decide +kernel), by decide +kernel⟩
theorem tw_444 : (Cond.instanceMethod (⟨"HeapStepsModel", "yields", "(III)Z"⟩ : MethodName)) ∈ tb := List.mem_filter.mpr ⟨List.mem_of_getElem? (i := 444) (by decide +kernel), by decide +kernel⟩
theorem tw_445 : (Cond.selects "HeapStepsModel" (⟨"HeapStepsModel", "yields", "(III)Z"⟩ : MethodName) (⟨"HeapStepsModel", "yields", "(III)Z"⟩ : MethodName)) ∈ tb := List.mem_filter.mpr ⟨List.mem_of_getElem? (i := 445) (by decide +kernel), by decide +kernel⟩
theorem tw_446 : (Cond.code (⟨"HeapStepsModel", "yields", "(III)Z"⟩ : MethodName) prog_6_method_10_code (4 : Nat) (Option.some FieldType.boolean)) ∈ tb := List.mem_filter.mpr ⟨List.mem_of_getElem? (i := 446) (by decide +kernel), by decide +kernel⟩
theorem tw_447 : (Cond.constantLong "HeapStepsModel" (77 : Nat) (1000 : Int64)) ∈ tb := List.mem_filter.mpr ⟨List.mem_of_getElem? (i := 447) (by decide +kernel), by decide +kernel⟩
theorem tw_448 : (Cond.methodLink "HeapStepsLaw" (46 : Nat) (⟨"HeapStepsModel", "bounds", "(III)Z"⟩ : MethodName)) ∈ tb := List.mem_filter.mpr ⟨List.mem_of_getElem? (i := 448) (by decide +kernel), by decide +kernel⟩
theorem tw_449 : (Cond.instanceMethod (⟨"HeapStepsModel", "bounds", "(III)Z"⟩ : MethodName)) ∈ tb := List.mem_filter.mpr ⟨List.mem_of_getElem? (i := 449) (by decide +kernel), by decide +kernel⟩
theorem tw_450 : (Cond.selects "HeapStepsModel" (⟨"HeapStepsModel", "bounds", "(III)Z"⟩ : MethodName) (⟨"HeapStepsModel", "bounds", "(III)Z"⟩ : MethodName)) ∈ tb := List.mem_filter.mpr ⟨List.mem_of_getElem? (i := 450) (by decide +kernel), by decide +kernel⟩
theorem tw_451 : (Cond.code (⟨"HeapStepsModel", "bounds", "(III)Z"⟩ : MethodName) prog_6_method_11_code (4 : Nat) (Option.some FieldType.boolean)) ∈ tb := List.mem_filter.mpr ⟨List.mem_of_getElem? (i := 451) (by decide +kernel), by decide +kernel⟩
theorem tw_452 : (Cond.methodLink "HeapStepsLaw" (51 : Nat) (⟨"HeapStepsModel", "rain", "(I)Z"⟩ : MethodName)) ∈ tb := List.mem_filter.mpr ⟨List.mem_of_getElem? (i := 452) (by decide +kernel), by decide +kernel⟩
theorem tw_453 : (Cond.instanceMethod (⟨"HeapStepsModel", "rain", "(I)Z"⟩ : MethodName)) ∈ tb := List.mem_filter.mpr ⟨List.mem_of_getElem? (i := 453) (by decide +kernel), by decide +kernel⟩
theorem tw_454 : (Cond.selects "HeapStepsModel" (⟨"HeapStepsModel", "rain", "(I)Z"⟩ : MethodName) (⟨"HeapStepsModel", "rain", "(I)Z"⟩ : MethodName)) ∈ tb := List.mem_filter.mpr ⟨List.mem_of_getElem? (i := 454) (by decide +kernel), by decide +kernel⟩
theorem tw_455 : (Cond.code (⟨"HeapStepsModel", "rain", "(I)Z"⟩ : MethodName) prog_6_method_12_code (2 : Nat) (Option.some FieldType.boolean)) ∈ tb := List.mem_filter.mpr ⟨List.mem_of_getElem? (i := 455) (by decide +kernel), by decide +kernel⟩
theorem tw_456 : (Cond.methodLink "HeapStepsLaw" (55 : Nat) (⟨"HeapStepsModel", "loss", "(I)Z"⟩ : MethodName)) ∈ tb := List.mem_filter.mpr ⟨List.mem_of_getElem? (i := 456) (by decide +kernel), by decide +kernel⟩
theorem tw_457 : (Cond.instanceMethod (⟨"HeapStepsModel", "loss", "(I)Z"⟩ : MethodName)) ∈ tb := List.mem_filter.mpr ⟨List.mem_of_getElem? (i := 457) (by decide +kernel), by decide +kernel⟩
theorem tw_458 : (Cond.selects "HeapStepsModel" (⟨"HeapStepsModel", "loss", "(I)Z"⟩ : MethodName) (⟨"HeapStepsModel", "loss", "(I)Z"⟩ : MethodName)) ∈ tb := List.mem_filter.mpr ⟨List.mem_of_getElem? (i := 458) (by decide +kernel), by decide +kernel⟩
theorem tw_459 : (Cond.code (⟨"HeapStepsModel", "loss", "(I)Z"⟩ : MethodName) prog_6_method_13_code (2 : Nat) (Option.some FieldType.boolean)) ∈ tb := List.mem_filter.mpr ⟨List.mem_of_getElem? (i := 459) (by decide +kernel), by decide +kernel⟩
theorem tw_460 : (Cond.methodLink "HeapStepsLaw" (59 : Nat) (⟨"HeapStepsModel", "fan", "(III)Z"⟩ : MethodName)) ∈ tb := List.mem_filter.mpr ⟨List.mem_of_getElem? (i := 460) (by decide +kernel), by decide +kernel⟩
theorem tw_461 : (Cond.instanceMethod (⟨"HeapStepsModel", "fan", "(III)Z"⟩ : MethodName)) ∈ tb := List.mem_filter.mpr ⟨List.mem_of_getElem? (i := 461) (by decide +kernel), by decide +kernel⟩
theorem tw_462 : (Cond.selects "HeapStepsModel" (⟨"HeapStepsModel", "fan", "(III)Z"⟩ : MethodName) (⟨"HeapStepsModel", "fan", "(III)Z"⟩ : MethodName)) ∈ tb := List.mem_filter.mpr ⟨List.mem_of_getElem? (i := 462) (by decide +kernel), by decide +kernel⟩
theorem tw_463 : (Cond.code (⟨"HeapStepsModel", "fan", "(III)Z"⟩ : MethodName) prog_6_method_14_code (4 : Nat) (Option.some FieldType.boolean)) ∈ tb := List.mem_filter.mpr ⟨List.mem_of_getElem? (i := 463) (by decide +kernel), by decide +kernel⟩
theorem tw_464 : (Cond.constantLong "HeapStepsModel" (85 : Nat) (-1000 : Int64)) ∈ tb := List.mem_filter.mpr ⟨List.mem_of_getElem? (i := 464) (by decide +kernel), by decide +kernel⟩
theorem tw_465 : (Cond.methodLink "HeapStepsLaw" (63 : Nat) (⟨"HeapStepsModel", "limit", "(I)Z"⟩ : MethodName)) ∈ tb := List.mem_filter.mpr ⟨List.mem_of_getElem? (i := 465) (by decide +kernel), by decide +kernel⟩
theorem tw_466 : (Cond.instanceMethod (⟨"HeapStepsModel", "limit", "(I)Z"⟩ : MethodName)) ∈ tb := List.mem_filter.mpr ⟨List.mem_of_getElem? (i := 466) (by decide +kernel), by decide +kernel⟩
theorem tw_467 : (Cond.selects "HeapStepsModel" (⟨"HeapStepsModel", "limit", "(I)Z"⟩ : MethodName) (⟨"HeapStepsModel", "limit", "(I)Z"⟩ : MethodName)) ∈ tb := List.mem_filter.mpr ⟨List.mem_of_getElem? (i := 467) (by decide +kernel), by decide +kernel⟩
theorem tw_468 : (Cond.code (⟨"HeapStepsModel", "limit", "(I)Z"⟩ : MethodName) prog_6_method_15_code (2 : Nat) (Option.some FieldType.boolean)) ∈ tb := List.mem_filter.mpr ⟨List.mem_of_getElem? (i := 468) (by decide +kernel), by decide +kernel⟩
theorem tw_469 : (Cond.methodLink "HeapStepsLaw" (68 : Nat) (⟨"HeapStepsModel", "run", "(I)I"⟩ : MethodName)) ∈ tb := List.mem_filter.mpr ⟨List.mem_of_getElem? (i := 469) (by decide +kernel), by decide +kernel⟩
theorem tw_470 : (Cond.instanceMethod (⟨"HeapStepsModel", "run", "(I)I"⟩ : MethodName)) ∈ tb := List.mem_filter.mpr ⟨List.mem_of_getElem? (i := 470) (by decide +kernel), by decide +kernel⟩
theorem tw_471 : (Cond.selects "HeapStepsModel" (⟨"HeapStepsModel", "run", "(I)I"⟩ : MethodName) (⟨"HeapStepsModel", "run", "(I)I"⟩ : MethodName)) ∈ tb := List.mem_filter.mpr ⟨List.mem_of_getElem? (i := 471) (by decide +kernel), by decide +kernel⟩
theorem tw_472 : (Cond.code (⟨"HeapStepsModel", "run", "(I)I"⟩ : MethodName) prog_6_method_26_code (3 : Nat) (Option.some FieldType.int)) ∈ tb := List.mem_filter.mpr ⟨List.mem_of_getElem? (i := 472) (by decide +kernel), by decide +kernel⟩
theorem tw_473 : (Cond.constantLong "HeapStepsModel" (143 : Nat) (20000 : Int64)) ∈ tb := List.mem_filter.mpr ⟨List.mem_of_getElem? (i := 473) (by decide +kernel), by decide +kernel⟩
theorem tw_474 : (Cond.methodLink "HeapStepsModel" (123 : Nat) (⟨"HeapStepsModel", "warmest", "()J"⟩ : MethodName)) ∈ tb := List.mem_filter.mpr ⟨List.mem_of_getElem? (i := 474) (by decide +kernel), by decide +kernel⟩
theorem tw_476 : (Cond.instanceMethod (⟨"HeapStepsModel", "warmest", "()J"⟩ : MethodName)) ∈ tb := List.mem_filter.mpr ⟨List.mem_of_getElem? (i := 476) (by decide +kernel), by decide +kernel⟩
theorem tw_477 : (Cond.code (⟨"HeapStepsModel", "warmest", "()J"⟩ : MethodName) prog_6_method_24_code (4 : Nat) (Option.some FieldType.long)) ∈ tb := List.mem_filter.mpr ⟨List.mem_of_getElem? (i := 477) (by decide +kernel), by decide +kernel⟩
theorem tw_478 : (Cond.methodLink "HeapStepsModel" (107 : Nat) (⟨"HeapStepsModel", "warmthOf", "(I)J"⟩ : MethodName)) ∈ tb := List.mem_filter.mpr ⟨List.mem_of_getElem? (i := 478) (by decide +kernel), by decide +kernel⟩
theorem tw_480 : (Cond.instanceMethod (⟨"HeapStepsModel", "warmthOf", "(I)J"⟩ : MethodName)) ∈ tb := List.mem_filter.mpr ⟨List.mem_of_getElem? (i := 480) (by decide +kernel), by decide +kernel⟩
theorem tw_481 : (Cond.code (⟨"HeapStepsModel", "warmthOf", "(I)J"⟩ : MethodName) prog_6_method_18_code (2 : Nat) (Option.some FieldType.long)) ∈ tb := List.mem_filter.mpr ⟨List.mem_of_getElem? (i := 481) (by decide +kernel), by decide +kernel⟩
theorem tw_482 : (Cond.methodLink "HeapStepsModel" (103 : Nat) (⟨"HeapStepsModel", "massOf", "(I)J"⟩ : MethodName)) ∈ tb := List.mem_filter.mpr ⟨List.mem_of_getElem? (i := 482) (by decide +kernel), by decide +kernel⟩
theorem tw_484 : (Cond.instanceMethod (⟨"HeapStepsModel", "massOf", "(I)J"⟩ : MethodName)) ∈ tb := List.mem_filter.mpr ⟨List.mem_of_getElem? (i := 484) (by decide +kernel), by decide +kernel⟩
theorem tw_485 : (Cond.code (⟨"HeapStepsModel", "massOf", "(I)J"⟩ : MethodName) prog_6_method_17_code (5 : Nat) (Option.some FieldType.long)) ∈ tb := List.mem_filter.mpr ⟨List.mem_of_getElem? (i := 485) (by decide +kernel), by decide +kernel⟩
theorem tw_486 : (Cond.methodLink "HeapStepsModel" (145 : Nat) (⟨"HeapStepsModel", "minute", "()V"⟩ : MethodName)) ∈ tb := List.mem_filter.mpr ⟨List.mem_of_getElem? (i := 486) (by decide +kernel), by decide +kernel⟩
theorem tw_488 : (Cond.instanceMethod (⟨"HeapStepsModel", "minute", "()V"⟩ : MethodName)) ∈ tb := List.mem_filter.mpr ⟨List.mem_of_getElem? (i := 488) (by decide +kernel), by decide +kernel⟩
theorem tw_489 : (Cond.code (⟨"HeapStepsModel", "minute", "()V"⟩ : MethodName) prog_6_method_25_code (4 : Nat) (Option.none : Option FieldType)) ∈ tb := List.mem_filter.mpr ⟨List.mem_of_getElem? (i := 489) (by decide +kernel), by decide +kernel⟩
theorem tw_490 : (Cond.methodLink "HeapStepsModel" (133 : Nat) (⟨"HeapStepsModel", "breaks", "(I)V"⟩ : MethodName)) ∈ tb := List.mem_filter.mpr ⟨List.mem_of_getElem? (i := 490) (by decide +kernel), by decide +kernel⟩
theorem tw_492 : (Cond.instanceMethod (⟨"HeapStepsModel", "breaks", "(I)V"⟩ : MethodName)) ∈ tb := List.mem_filter.mpr ⟨List.mem_of_getElem? (i := 492) (by decide +kernel), by decide +kernel⟩
theorem tw_493 : (Cond.code (⟨"HeapStepsModel", "breaks", "(I)V"⟩ : MethodName) prog_6_method_20_code (11 : Nat) (Option.none : Option FieldType)) ∈ tb := List.mem_filter.mpr ⟨List.mem_of_getElem? (i := 493) (by decide +kernel), by decide +kernel⟩
theorem tw_494 : (Cond.methodLink "HeapStepsModel" (110 : Nat) (⟨"HeapStepsModel", "rateOf", "(IJ)J"⟩ : MethodName)) ∈ tb := List.mem_filter.mpr ⟨List.mem_of_getElem? (i := 494) (by decide +kernel), by decide +kernel⟩
theorem tw_496 : (Cond.instanceMethod (⟨"HeapStepsModel", "rateOf", "(IJ)J"⟩ : MethodName)) ∈ tb := List.mem_filter.mpr ⟨List.mem_of_getElem? (i := 496) (by decide +kernel), by decide +kernel⟩
theorem tw_497 : (Cond.code (⟨"HeapStepsModel", "rateOf", "(IJ)J"⟩ : MethodName) prog_6_method_19_code (7 : Nat) (Option.some FieldType.long)) ∈ tb := List.mem_filter.mpr ⟨List.mem_of_getElem? (i := 497) (by decide +kernel), by decide +kernel⟩
theorem tw_498 : (Cond.methodLink "HeapStepsModel" (114 : Nat) (⟨"HeapStepsModel", "partOf", "(JJ)J"⟩ : MethodName)) ∈ tb := List.mem_filter.mpr ⟨List.mem_of_getElem? (i := 498) (by decide +kernel), by decide +kernel⟩
theorem tw_499 : (Cond.static (⟨"HeapStepsModel", "partOf", "(JJ)J"⟩ : MethodName)) ∈ tb := List.mem_filter.mpr ⟨List.mem_of_getElem? (i := 499) (by decide +kernel), by decide +kernel⟩
theorem tw_500 : (Cond.code (⟨"HeapStepsModel", "partOf", "(JJ)J"⟩ : MethodName) prog_6_method_16_code (4 : Nat) (Option.some FieldType.long)) ∈ tb := List.mem_filter.mpr ⟨List.mem_of_getElem? (i := 500) (by decide +kernel), by decide +kernel⟩
theorem tw_501 : (Cond.methodLink "HeapStepsModel" (137 : Nat) (⟨"HeapStepsModel", "loses", "(I)V"⟩ : MethodName)) ∈ tb := List.mem_filter.mpr ⟨List.mem_of_getElem? (i := 501) (by decide +kernel), by decide +kernel⟩
theorem tw_503 : (Cond.instanceMethod (⟨"HeapStepsModel", "loses", "(I)V"⟩ : MethodName)) ∈ tb := List.mem_filter.mpr ⟨List.mem_of_getElem? (i := 503) (by decide +kernel), by decide +kernel⟩
theorem tw_504 : (Cond.code (⟨"HeapStepsModel", "loses", "(I)V"⟩ : MethodName) prog_6_method_21_code (8 : Nat) (Option.none : Option FieldType)) ∈ tb := List.mem_filter.mpr ⟨List.mem_of_getElem? (i := 504) (by decide +kernel), by decide +kernel⟩
theorem tw_505 : (Cond.constantLong "HeapStepsModel" (121 : Nat) (600 : Int64)) ∈ tb := List.mem_filter.mpr ⟨List.mem_of_getElem? (i := 505) (by decide +kernel), by decide +kernel⟩
theorem tw_506 : (Cond.methodLink "HeapStepsModel" (140 : Nat) (⟨"HeapStepsModel", "setFan", "()V"⟩ : MethodName)) ∈ tb := List.mem_filter.mpr ⟨List.mem_of_getElem? (i := 506) (by decide +kernel), by decide +kernel⟩
theorem tw_508 : (Cond.instanceMethod (⟨"HeapStepsModel", "setFan", "()V"⟩ : MethodName)) ∈ tb := List.mem_filter.mpr ⟨List.mem_of_getElem? (i := 508) (by decide +kernel), by decide +kernel⟩
theorem tw_509 : (Cond.code (⟨"HeapStepsModel", "setFan", "()V"⟩ : MethodName) prog_6_method_23_code (7 : Nat) (Option.none : Option FieldType)) ∈ tb := List.mem_filter.mpr ⟨List.mem_of_getElem? (i := 509) (by decide +kernel), by decide +kernel⟩
theorem tw_510 : (Cond.constantLong "HeapStepsModel" (127 : Nat) (-1000000000 : Int64)) ∈ tb := List.mem_filter.mpr ⟨List.mem_of_getElem? (i := 510) (by decide +kernel), by decide +kernel⟩
theorem tw_511 : (Cond.methodLink "HeapStepsModel" (129 : Nat) (⟨"HeapStepsModel", "cut", "(JJJ)J"⟩ : MethodName)) ∈ tb := List.mem_filter.mpr ⟨List.mem_of_getElem? (i := 511) (by decide +kernel), by decide +kernel⟩
theorem tw_512 : (Cond.static (⟨"HeapStepsModel", "cut", "(JJJ)J"⟩ : MethodName)) ∈ tb := List.mem_filter.mpr ⟨List.mem_of_getElem? (i := 512) (by decide +kernel), by decide +kernel⟩
theorem tw_513 : (Cond.code (⟨"HeapStepsModel", "cut", "(JJJ)J"⟩ : MethodName) prog_6_method_22_code (6 : Nat) (Option.some FieldType.long)) ∈ tb := List.mem_filter.mpr ⟨List.mem_of_getElem? (i := 513) (by decide +kernel), by decide +kernel⟩
theorem tw_514 : (Cond.methodLink "HeapStepsLaw" (73 : Nat) (⟨"HeapStepsModel", "left", "(II)J"⟩ : MethodName)) ∈ tb := List.mem_filter.mpr ⟨List.mem_of_getElem? (i := 514) (by decide +kernel), by decide +kernel⟩
theorem tw_515 : (Cond.instanceMethod (⟨"HeapStepsModel", "left", "(II)J"⟩ : MethodName)) ∈ tb := List.mem_filter.mpr ⟨List.mem_of_getElem? (i := 515) (by decide +kernel), by decide +kernel⟩
theorem tw_516 : (Cond.selects "HeapStepsModel" (⟨"HeapStepsModel", "left", "(II)J"⟩ : MethodName) (⟨"HeapStepsModel", "left", "(II)J"⟩ : MethodName)) ∈ tb := List.mem_filter.mpr ⟨List.mem_of_getElem? (i := 516) (by decide +kernel), by decide +kernel⟩
theorem tw_517 : (Cond.code (⟨"HeapStepsModel", "left", "(II)J"⟩ : MethodName) prog_6_method_27_code (3 : Nat) (Option.some FieldType.long)) ∈ tb := List.mem_filter.mpr ⟨List.mem_of_getElem? (i := 517) (by decide +kernel), by decide +kernel⟩
theorem tw_518 : (Cond.constantLong "HeapStepsModel" (148 : Nat) (-1 : Int64)) ∈ tb := List.mem_filter.mpr ⟨List.mem_of_getElem? (i := 518) (by decide +kernel), by decide +kernel⟩
theorem tw_519 : (Cond.methodLink "HeapStepsLaw" (78 : Nat) (⟨"HeapStepsModel", "wet", "(I)J"⟩ : MethodName)) ∈ tb := List.mem_filter.mpr ⟨List.mem_of_getElem? (i := 519) (by decide +kernel), by decide +kernel⟩
theorem tw_520 : (Cond.instanceMethod (⟨"HeapStepsModel", "wet", "(I)J"⟩ : MethodName)) ∈ tb := List.mem_filter.mpr ⟨List.mem_of_getElem? (i := 520) (by decide +kernel), by decide +kernel⟩
theorem tw_521 : (Cond.selects "HeapStepsModel" (⟨"HeapStepsModel", "wet", "(I)J"⟩ : MethodName) (⟨"HeapStepsModel", "wet", "(I)J"⟩ : MethodName)) ∈ tb := List.mem_filter.mpr ⟨List.mem_of_getElem? (i := 521) (by decide +kernel), by decide +kernel⟩
theorem tw_522 : (Cond.code (⟨"HeapStepsModel", "wet", "(I)J"⟩ : MethodName) prog_6_method_28_code (2 : Nat) (Option.some FieldType.long)) ∈ tb := List.mem_filter.mpr ⟨List.mem_of_getElem? (i := 522) (by decide +kernel), by decide +kernel⟩
theorem tw_523 : (Cond.methodLink "HeapStepsLaw" (82 : Nat) (⟨"HeapStepsModel", "warmth", "(I)J"⟩ : MethodName)) ∈ tb := List.mem_filter.mpr ⟨List.mem_of_getElem? (i := 523) (by decide +kernel), by decide +kernel⟩
theorem tw_524 : (Cond.instanceMethod (⟨"HeapStepsModel", "warmth", "(I)J"⟩ : MethodName)) ∈ tb := List.mem_filter.mpr ⟨List.mem_of_getElem? (i := 524) (by decide +kernel), by decide +kernel⟩
theorem tw_525 : (Cond.selects "HeapStepsModel" (⟨"HeapStepsModel", "warmth", "(I)J"⟩ : MethodName) (⟨"HeapStepsModel", "warmth", "(I)J"⟩ : MethodName)) ∈ tb := List.mem_filter.mpr ⟨List.mem_of_getElem? (i := 525) (by decide +kernel), by decide +kernel⟩
theorem tw_526 : (Cond.code (⟨"HeapStepsModel", "warmth", "(I)J"⟩ : MethodName) prog_6_method_29_code (2 : Nat) (Option.some FieldType.long)) ∈ tb := List.mem_filter.mpr ⟨List.mem_of_getElem? (i := 526) (by decide +kernel), by decide +kernel⟩
theorem tw_527 : (Cond.methodLink "HeapStepsLaw" (87 : Nat) (⟨"HeapStepsModel", "air", "()I"⟩ : MethodName)) ∈ tb := List.mem_filter.mpr ⟨List.mem_of_getElem? (i := 527) (by decide +kernel), by decide +kernel⟩
theorem tw_528 : (Cond.instanceMethod (⟨"HeapStepsModel", "air", "()I"⟩ : MethodName)) ∈ tb := List.mem_filter.mpr ⟨List.mem_of_getElem? (i := 528) (by decide +kernel), by decide +kernel⟩
theorem tw_529 : (Cond.selects "HeapStepsModel" (⟨"HeapStepsModel", "air", "()I"⟩ : MethodName) (⟨"HeapStepsModel", "air", "()I"⟩ : MethodName)) ∈ tb := List.mem_filter.mpr ⟨List.mem_of_getElem? (i := 529) (by decide +kernel), by decide +kernel⟩
theorem tw_530 : (Cond.code (⟨"HeapStepsModel", "air", "()I"⟩ : MethodName) prog_6_method_30_code (1 : Nat) (Option.some FieldType.int)) ∈ tb := List.mem_filter.mpr ⟨List.mem_of_getElem? (i := 530) (by decide +kernel), by decide +kernel⟩
theorem tw_531 : (Cond.methodLink "HeapStepsLaw" (91 : Nat) (⟨"HeapStepsModel", "turn", "()I"⟩ : MethodName)) ∈ tb := List.mem_filter.mpr ⟨List.mem_of_getElem? (i := 531) (by decide +kernel), by decide +kernel⟩
theorem tw_532 : (Cond.instanceMethod (⟨"HeapStepsModel", "turn", "()I"⟩ : MethodName)) ∈ tb := List.mem_filter.mpr ⟨List.mem_of_getElem? (i := 532) (by decide +kernel), by decide +kernel⟩
theorem tw_533 : (Cond.selects "HeapStepsModel" (⟨"HeapStepsModel", "turn", "()I"⟩ : MethodName) (⟨"HeapStepsModel", "turn", "()I"⟩ : MethodName)) ∈ tb := List.mem_filter.mpr ⟨List.mem_of_getElem? (i := 533) (by decide +kernel), by decide +kernel⟩
theorem tw_534 : (Cond.code (⟨"HeapStepsModel", "turn", "()I"⟩ : MethodName) prog_6_method_32_code (6 : Nat) (Option.some FieldType.int)) ∈ tb := List.mem_filter.mpr ⟨List.mem_of_getElem? (i := 534) (by decide +kernel), by decide +kernel⟩
theorem tw_535 : (Cond.methodLink "HeapStepsModel" (150 : Nat) (⟨"HeapStepsModel", "shareOf", "(JI)J"⟩ : MethodName)) ∈ tb := List.mem_filter.mpr ⟨List.mem_of_getElem? (i := 535) (by decide +kernel), by decide +kernel⟩
theorem tw_537 : (Cond.instanceMethod (⟨"HeapStepsModel", "shareOf", "(JI)J"⟩ : MethodName)) ∈ tb := List.mem_filter.mpr ⟨List.mem_of_getElem? (i := 537) (by decide +kernel), by decide +kernel⟩
theorem tw_538 : (Cond.code (⟨"HeapStepsModel", "shareOf", "(JI)J"⟩ : MethodName) prog_6_method_31_code (4 : Nat) (Option.some FieldType.long)) ∈ tb := List.mem_filter.mpr ⟨List.mem_of_getElem? (i := 538) (by decide +kernel), by decide +kernel⟩
theorem tw_539 : (Cond.methodLink "HeapStepsLaw" (95 : Nat) (⟨"HeapStepsModel", "gone", "(I)J"⟩ : MethodName)) ∈ tb := List.mem_filter.mpr ⟨List.mem_of_getElem? (i := 539) (by decide +kernel), by decide +kernel⟩
theorem tw_540 : (Cond.instanceMethod (⟨"HeapStepsModel", "gone", "(I)J"⟩ : MethodName)) ∈ tb := List.mem_filter.mpr ⟨List.mem_of_getElem? (i := 540) (by decide +kernel), by decide +kernel⟩
theorem tw_541 : (Cond.selects "HeapStepsModel" (⟨"HeapStepsModel", "gone", "(I)J"⟩ : MethodName) (⟨"HeapStepsModel", "gone", "(I)J"⟩ : MethodName)) ∈ tb := List.mem_filter.mpr ⟨List.mem_of_getElem? (i := 541) (by decide +kernel), by decide +kernel⟩
theorem tw_542 : (Cond.code (⟨"HeapStepsModel", "gone", "(I)J"⟩ : MethodName) prog_6_method_33_code (2 : Nat) (Option.some FieldType.long)) ∈ tb := List.mem_filter.mpr ⟨List.mem_of_getElem? (i := 542) (by decide +kernel), by decide +kernel⟩
theorem tw_543 : (Cond.constantLong "HeapStepsModel" (157 : Nat) (8 : Int64)) ∈ tb := List.mem_filter.mpr ⟨List.mem_of_getElem? (i := 543) (by decide +kernel), by decide +kernel⟩
theorem tw_544 : (Cond.methodLink "HeapStepsLaw" (99 : Nat) (⟨"HeapStepsModel", "balance", "(I)J"⟩ : MethodName)) ∈ tb := List.mem_filter.mpr ⟨List.mem_of_getElem? (i := 544) (by decide +kernel), by decide +kernel⟩
theorem tw_545 : (Cond.instanceMethod (⟨"HeapStepsModel", "balance", "(I)J"⟩ : MethodName)) ∈ tb := List.mem_filter.mpr ⟨List.mem_of_getElem? (i := 545) (by decide +kernel), by decide +kernel⟩
theorem tw_546 : (Cond.selects "HeapStepsModel" (⟨"HeapStepsModel", "balance", "(I)J"⟩ : MethodName) (⟨"HeapStepsModel", "balance", "(I)J"⟩ : MethodName)) ∈ tb := List.mem_filter.mpr ⟨List.mem_of_getElem? (i := 546) (by decide +kernel), by decide +kernel⟩
theorem tw_547 : (Cond.code (⟨"HeapStepsModel", "balance", "(I)J"⟩ : MethodName) prog_6_method_35_code (4 : Nat) (Option.some FieldType.long)) ∈ tb := List.mem_filter.mpr ⟨List.mem_of_getElem? (i := 547) (by decide +kernel), by decide +kernel⟩
theorem tw_548 : (Cond.constantLong "HeapStepsModel" (159 : Nat) (2 : Int64)) ∈ tb := List.mem_filter.mpr ⟨List.mem_of_getElem? (i := 548) (by decide +kernel), by decide +kernel⟩
theorem tw_549 : (Cond.methodLink "HeapStepsModel" (161 : Nat) (⟨"HeapStepsModel", "there", "(I)J"⟩ : MethodName)) ∈ tb := List.mem_filter.mpr ⟨List.mem_of_getElem? (i := 549) (by decide +kernel), by decide +kernel⟩
theorem tw_551 : (Cond.instanceMethod (⟨"HeapStepsModel", "there", "(I)J"⟩ : MethodName)) ∈ tb := List.mem_filter.mpr ⟨List.mem_of_getElem? (i := 551) (by decide +kernel), by decide +kernel⟩
theorem tw_552 : (Cond.code (⟨"HeapStepsModel", "there", "(I)J"⟩ : MethodName) prog_6_method_34_code (5 : Nat) (Option.some FieldType.long)) ∈ tb := List.mem_filter.mpr ⟨List.mem_of_getElem? (i := 552) (by decide +kernel), by decide +kernel⟩
theorem tw_553 : (Cond.methodLink "HeapStepsLaw" (104 : Nat) (⟨"HeapStepsModel", "batch", "()J"⟩ : MethodName)) ∈ tb := List.mem_filter.mpr ⟨List.mem_of_getElem? (i := 553) (by decide +kernel), by decide +kernel⟩
theorem tw_554 : (Cond.instanceMethod (⟨"HeapStepsModel", "batch", "()J"⟩ : MethodName)) ∈ tb := List.mem_filter.mpr ⟨List.mem_of_getElem? (i := 554) (by decide +kernel), by decide +kernel⟩
theorem tw_555 : (Cond.selects "HeapStepsModel" (⟨"HeapStepsModel", "batch", "()J"⟩ : MethodName) (⟨"HeapStepsModel", "batch", "()J"⟩ : MethodName)) ∈ tb := List.mem_filter.mpr ⟨List.mem_of_getElem? (i := 555) (by decide +kernel), by decide +kernel⟩
theorem tw_556 : (Cond.code (⟨"HeapStepsModel", "batch", "()J"⟩ : MethodName) prog_6_method_36_code (5 : Nat) (Option.some FieldType.long)) ∈ tb := List.mem_filter.mpr ⟨List.mem_of_getElem? (i := 556) (by decide +kernel), by decide +kernel⟩
theorem in_X : ∀ w ∈ u_ws "HeapSteps" T_X 10, w ∈ tb := by
  intro w hw
  obtain ⟨k, hk, rfl⟩ := List.mem_map.mp hw
  have hk := List.mem_range.mp hk
  match k, hk with
  | 0, _ => exact tw_126
  | 1, _ => exact tw_128
  | 2, _ => exact tw_130
  | 3, _ => exact tw_132
  | 4, _ => exact tw_134
  | 5, _ => exact tw_136
  | 6, _ => exact tw_138
  | 7, _ => exact tw_140
  | 8, _ => exact tw_142
  | 9, _ => exact tw_144
  | k + 10, h => exact absurd h (by omega)
theorem in_F : ∀ w ∈ u_ws "HeapSteps$Fan" T_F 6, w ∈ tb := by
  intro w hw
  obtain ⟨k, hk, rfl⟩ := List.mem_map.mp hw
  have hk := List.mem_range.mp hk
  match k, hk with
  | 0, _ => exact tw_53
  | 1, _ => exact tw_55
  | 2, _ => exact tw_57
  | 3, _ => exact tw_59
  | 4, _ => exact tw_61
  | 5, _ => exact tw_63
  | k + 6, h => exact absurd h (by omega)
theorem in_K : ∀ w ∈ u_ws "HeapSteps$Kind" T_K 5, w ∈ tb := by
  intro w hw
  obtain ⟨k, hk, rfl⟩ := List.mem_map.mp hw
  have hk := List.mem_range.mp hk
  match k, hk with
  | 0, _ => exact tw_104
  | 1, _ => exact tw_106
  | 2, _ => exact tw_108
  | 3, _ => exact tw_110
  | 4, _ => exact tw_112
  | k + 5, h => exact absurd h (by omega)
theorem in_Y : ∀ w ∈ u_ws "HeapSteps$Layer" T_Y 3, w ∈ tb := by
  intro w hw
  obtain ⟨k, hk, rfl⟩ := List.mem_map.mp hw
  have hk := List.mem_range.mp hk
  match k, hk with
  | 0, _ => exact tw_84
  | 1, _ => exact tw_86
  | 2, _ => exact tw_88
  | k + 3, h => exact absurd h (by omega)
theorem in_M : ∀ w ∈ u_ws "HeapStepsModel" T_M 24, w ∈ tb := by
  intro w hw
  obtain ⟨k, hk, rfl⟩ := List.mem_map.mp hw
  have hk := List.mem_range.mp hk
  match k, hk with
  | 0, _ => exact tw_365
  | 1, _ => exact tw_367
  | 2, _ => exact tw_369
  | 3, _ => exact tw_371
  | 4, _ => exact tw_373
  | 5, _ => exact tw_375
  | 6, _ => exact tw_377
  | 7, _ => exact tw_379
  | 8, _ => exact tw_381
  | 9, _ => exact tw_383
  | 10, _ => exact tw_385
  | 11, _ => exact tw_387
  | 12, _ => exact tw_389
  | 13, _ => exact tw_391
  | 14, _ => exact tw_393
  | 15, _ => exact tw_395
  | 16, _ => exact tw_397
  | 17, _ => exact tw_399
  | 18, _ => exact tw_401
  | 19, _ => exact tw_403
  | 20, _ => exact tw_405
  | 21, _ => exact tw_407
  | 22, _ => exact tw_409
  | 23, _ => exact tw_411
  | k + 24, h => exact absurd h (by omega)
/-- what the tables say of nest mates and of arrays of objects -/
def wN (U : State) : Prop := va_Nw (Cond.methodLinkNest "HeapSteps" (17 : Nat) (⟨"HeapSteps$Fan", "<init>", "()V"⟩ : MethodName) "HeapSteps") U ∧ va_Nw (Cond.methodLinkNest "HeapSteps" (56 : Nat) (⟨"HeapSteps$Layer", "<init>", "()V"⟩ : MethodName) "HeapSteps") U ∧ va_Nw (Cond.methodLinkNest "HeapSteps" (57 : Nat) (⟨"HeapSteps$Kind", "<init>", "()V"⟩ : MethodName) "HeapSteps") U ∧ va_Nw (Cond.methodLinkNest "HeapSteps$Fan" (36 : Nat) (⟨"HeapSteps", "cut", "(JJJ)J"⟩ : MethodName) "HeapSteps") U ∧ va_AO "HeapSteps$Kind" U ∧ va_AO "HeapSteps$Layer" U
theorem wN_of {A : Array Value} {U : State} (h : ∀ w ∈ lw_tbl, w.before A U = true) : wN U := ⟨va_Nw.of rfl (h _ tn_42), va_Nw.of rfl (h _ tn_73), va_Nw.of rfl (h _ tn_93), va_Nw.of rfl (h _ tn_278), va_AO.of (h _ tn_39), va_AO.of (h _ tn_71)⟩
theorem wN.warm {s U : State} (hW : s.WarmedH U.vm) (h : wN s) : wN U := by
  obtain ⟨h0, h1, h2, h3, h4, h5⟩ := h
  exact ⟨va_Nw.warmM hW h0, va_Nw.warmM hW h1, va_Nw.warmM hW h2, va_Nw.warmM hW h3, va_AO.moved hW.alike h4, va_AO.moved hW.alike h5⟩
theorem wN.same {u U : State} (h : u.vm = U.vm) (hn : wN u) : wN U := by
  obtain ⟨h0, h1, h2, h3, h4, h5⟩ := hn
  exact ⟨va_tabs rfl h h0, va_tabs rfl h h1, va_tabs rfl h h2, va_tabs rfl h h3, va_AO.moved (h ▸ Vm.Alike.refl _) h4, va_AO.moved (h ▸ Vm.Alike.refl _) h5⟩
theorem wN_42 {U : State} (h : wN U) : va_Nw (Cond.methodLinkNest "HeapSteps" (17 : Nat) (⟨"HeapSteps$Fan", "<init>", "()V"⟩ : MethodName) "HeapSteps") U := h.1
theorem wN_73 {U : State} (h : wN U) : va_Nw (Cond.methodLinkNest "HeapSteps" (56 : Nat) (⟨"HeapSteps$Layer", "<init>", "()V"⟩ : MethodName) "HeapSteps") U := h.2.1
theorem wN_93 {U : State} (h : wN U) : va_Nw (Cond.methodLinkNest "HeapSteps" (57 : Nat) (⟨"HeapSteps$Kind", "<init>", "()V"⟩ : MethodName) "HeapSteps") U := h.2.2.1
theorem wN_278 {U : State} (h : wN U) : va_Nw (Cond.methodLinkNest "HeapSteps$Fan" (36 : Nat) (⟨"HeapSteps", "cut", "(JJJ)J"⟩ : MethodName) "HeapSteps") U := h.2.2.2.1
theorem wN_39 {U : State} (h : wN U) : va_AO "HeapSteps$Kind" U := h.2.2.2.2.1
theorem wN_71 {U : State} (h : wN U) : va_AO "HeapSteps$Layer" U := h.2.2.2.2.2
theorem tb_good : ∀ w ∈ tb, goodWord w = true := fun _ h => (List.mem_filter.mp h).2
def y_X_init : MethodName := ⟨"HeapSteps", "<init>", "(I)V"⟩
abbrev b_X_init : ByteArray := prog_1_method_1_code
abbrev ws_X_init : List Cond := Cond.code y_X_init b_X_init 4 none :: tb
def y_F_init : MethodName := ⟨"HeapSteps$Fan", "<init>", "()V"⟩
abbrev b_F_init : ByteArray := prog_2_method_1_code
abbrev ws_F_init : List Cond := Cond.code y_F_init b_F_init 1 none :: tb
def y_X_within : MethodName := ⟨"HeapSteps", "within", "(III)Z"⟩
abbrev b_X_within : ByteArray := prog_1_method_21_code
abbrev ws_X_within : List Cond := Cond.code y_X_within b_X_within 3 (some .boolean) :: tb
def y_Y_init : MethodName := ⟨"HeapSteps$Layer", "<init>", "()V"⟩
abbrev b_Y_init : ByteArray := prog_4_method_1_code
abbrev ws_Y_init : List Cond := Cond.code y_Y_init b_Y_init 1 none :: tb
def y_K_init : MethodName := ⟨"HeapSteps$Kind", "<init>", "()V"⟩
abbrev b_K_init : ByteArray := prog_3_method_1_code
abbrev ws_K_init : List Cond := Cond.code y_K_init b_K_init 1 none :: tb
def y_X_part : MethodName := ⟨"HeapSteps", "part", "(III)Z"⟩
abbrev b_X_part : ByteArray := prog_1_method_2_code
abbrev ws_X_part : List Cond := Cond.code y_X_part b_X_part 4 (some .boolean) :: tb
def y_X_isPart : MethodName := ⟨"HeapSteps", "isPart", "(I)Z"⟩
abbrev b_X_isPart : ByteArray := prog_1_method_22_code
abbrev ws_X_isPart : List Cond := Cond.code y_X_isPart b_X_isPart 1 (some .boolean) :: tb
def y_X_layerAt : MethodName := ⟨"HeapSteps", "layerAt", "(I)LHeapSteps$Layer;"⟩
abbrev b_X_layerAt : ByteArray := prog_1_method_25_code
abbrev ws_X_layerAt : List Cond := Cond.code y_X_layerAt b_X_layerAt 2 (some (.object "HeapSteps$Layer")) :: tb
def y_X_bring : MethodName := ⟨"HeapSteps", "bring", "(LHeapSteps$Layer;IIJ)Z"⟩
abbrev b_X_bring : ByteArray := prog_1_method_26_code
abbrev ws_X_bring : List Cond := Cond.code y_X_bring b_X_bring 6 (some .boolean) :: tb
def y_X_water : MethodName := ⟨"HeapSteps", "water", "(II)Z"⟩
abbrev b_X_water : ByteArray := prog_1_method_3_code
abbrev ws_X_water : List Cond := Cond.code y_X_water b_X_water 3 (some .boolean) :: tb
def y_X_heat : MethodName := ⟨"HeapSteps", "heat", "(II)Z"⟩
abbrev b_X_heat : ByteArray := prog_1_method_4_code
abbrev ws_X_heat : List Cond := Cond.code y_X_heat b_X_heat 3 (some .boolean) :: tb
def y_X_rate : MethodName := ⟨"HeapSteps", "rate", "(III)Z"⟩
abbrev b_X_rate : ByteArray := prog_1_method_5_code
abbrev ws_X_rate : List Cond := Cond.code y_X_rate b_X_rate 4 (some .boolean) :: tb
def y_K_addRow : MethodName := ⟨"HeapSteps$Kind", "addRow", "(II)Z"⟩
abbrev b_K_addRow : ByteArray := prog_3_method_2_code
abbrev ws_K_addRow : List Cond := Cond.code y_K_addRow b_K_addRow 3 (some .boolean) :: tb
def y_X_yields : MethodName := ⟨"HeapSteps", "yields", "(III)Z"⟩
abbrev b_X_yields : ByteArray := prog_1_method_6_code
abbrev ws_X_yields : List Cond := Cond.code y_X_yields b_X_yields 4 (some .boolean) :: tb
def y_X_bounds : MethodName := ⟨"HeapSteps", "bounds", "(III)Z"⟩
abbrev b_X_bounds : ByteArray := prog_1_method_7_code
abbrev ws_X_bounds : List Cond := Cond.code y_X_bounds b_X_bounds 5 (some .boolean) :: tb
def y_X_rain : MethodName := ⟨"HeapSteps", "rain", "(I)Z"⟩
abbrev b_X_rain : ByteArray := prog_1_method_8_code
abbrev ws_X_rain : List Cond := Cond.code y_X_rain b_X_rain 2 (some .boolean) :: tb
def y_X_loss : MethodName := ⟨"HeapSteps", "loss", "(I)Z"⟩
abbrev b_X_loss : ByteArray := prog_1_method_9_code
abbrev ws_X_loss : List Cond := Cond.code y_X_loss b_X_loss 2 (some .boolean) :: tb
def y_X_fan : MethodName := ⟨"HeapSteps", "fan", "(III)Z"⟩
abbrev b_X_fan : ByteArray := prog_1_method_10_code
abbrev ws_X_fan : List Cond := Cond.code y_X_fan b_X_fan 4 (some .boolean) :: tb
def y_F_tell : MethodName := ⟨"HeapSteps$Fan", "tell", "(III)V"⟩
abbrev b_F_tell : ByteArray := prog_2_method_2_code
abbrev ws_F_tell : List Cond := Cond.code y_F_tell b_F_tell 4 none :: tb
def y_X_limit : MethodName := ⟨"HeapSteps", "limit", "(I)Z"⟩
abbrev b_X_limit : ByteArray := prog_1_method_11_code
abbrev ws_X_limit : List Cond := Cond.code y_X_limit b_X_limit 2 (some .boolean) :: tb
def y_X_run : MethodName := ⟨"HeapSteps", "run", "(I)I"⟩
abbrev b_X_run : ByteArray := prog_1_method_12_code
abbrev ws_X_run : List Cond := Cond.code y_X_run b_X_run 3 (some .int) :: tb
def y_X_greatestWarmth : MethodName := ⟨"HeapSteps", "greatestWarmth", "()J"⟩
abbrev b_X_greatestWarmth : ByteArray := prog_1_method_27_code
abbrev ws_X_greatestWarmth : List Cond := Cond.code y_X_greatestWarmth b_X_greatestWarmth 7 (some .long) :: tb
def y_Y_warmthNow : MethodName := ⟨"HeapSteps$Layer", "warmthNow", "()J"⟩
abbrev b_Y_warmthNow : ByteArray := prog_4_method_3_code
abbrev ws_Y_warmthNow : List Cond := Cond.code y_Y_warmthNow b_Y_warmthNow 3 (some .long) :: tb
def y_Y_mass : MethodName := ⟨"HeapSteps$Layer", "mass", "()J"⟩
abbrev b_Y_mass : ByteArray := prog_4_method_2_code
abbrev ws_Y_mass : List Cond := Cond.code y_Y_mass b_Y_mass 4 (some .long) :: tb
def y_J_max : MethodName := ⟨"java/lang/Math", "max", "(JJ)J"⟩
abbrev b_J_max : ByteArray := prog_7_method_66_code
abbrev ws_J_max : List Cond := Cond.code y_J_max b_J_max 4 (some .long) :: tb
def y_X_passMinute : MethodName := ⟨"HeapSteps", "passMinute", "()V"⟩
abbrev b_X_passMinute : ByteArray := prog_1_method_28_code
abbrev ws_X_passMinute : List Cond := Cond.code y_X_passMinute b_X_passMinute 3 none :: tb
def y_X_pour : MethodName := ⟨"HeapSteps", "pour", "(JI)V"⟩
abbrev b_X_pour : ByteArray := prog_1_method_29_code
abbrev ws_X_pour : List Cond := Cond.code y_X_pour b_X_pour 5 none :: tb
def y_X_breakParts : MethodName := ⟨"HeapSteps", "breakParts", "(LHeapSteps$Layer;)V"⟩
abbrev b_X_breakParts : ByteArray := prog_1_method_30_code
abbrev ws_X_breakParts : List Cond := Cond.code y_X_breakParts b_X_breakParts 5 none :: tb
def y_X_breakPart : MethodName := ⟨"HeapSteps", "breakPart", "(LHeapSteps$Layer;IJ)V"⟩
abbrev b_X_breakPart : ByteArray := prog_1_method_31_code
abbrev ws_X_breakPart : List Cond := Cond.code y_X_breakPart b_X_breakPart 12 none :: tb
def y_K_millionthsAt : MethodName := ⟨"HeapSteps$Kind", "millionthsAt", "(J)I"⟩
abbrev b_K_millionthsAt : ByteArray := prog_3_method_3_code
abbrev ws_K_millionthsAt : List Cond := Cond.code y_K_millionthsAt b_K_millionthsAt 5 (some .int) :: tb
def y_X_millionthsOf : MethodName := ⟨"HeapSteps", "millionthsOf", "(JJ)J"⟩
abbrev b_X_millionthsOf : ByteArray := prog_1_method_23_code
abbrev ws_X_millionthsOf : List Cond := Cond.code y_X_millionthsOf b_X_millionthsOf 4 (some .long) :: tb
def y_X_loseHeat : MethodName := ⟨"HeapSteps", "loseHeat", "(LHeapSteps$Layer;)V"⟩
abbrev b_X_loseHeat : ByteArray := prog_1_method_32_code
abbrev ws_X_loseHeat : List Cond := Cond.code y_X_loseHeat b_X_loseHeat 4 none :: tb
def y_X_driveOff : MethodName := ⟨"HeapSteps", "driveOff", "(LHeapSteps$Layer;)V"⟩
abbrev b_X_driveOff : ByteArray := prog_1_method_33_code
abbrev ws_X_driveOff : List Cond := Cond.code y_X_driveOff b_X_driveOff 6 none :: tb
def y_J_min : MethodName := ⟨"java/lang/Math", "min", "(JJ)J"⟩
abbrev b_J_min : ByteArray := prog_7_method_70_code
abbrev ws_J_min : List Cond := Cond.code y_J_min b_J_min 4 (some .long) :: tb
def y_Y_takeSurplus : MethodName := ⟨"HeapSteps$Layer", "takeSurplus", "()J"⟩
abbrev b_Y_takeSurplus : ByteArray := prog_4_method_4_code
abbrev ws_Y_takeSurplus : List Cond := Cond.code y_Y_takeSurplus b_Y_takeSurplus 3 (some .long) :: tb
def y_F_adjust : MethodName := ⟨"HeapSteps$Fan", "adjust", "(J)V"⟩
abbrev b_F_adjust : ByteArray := prog_2_method_3_code
abbrev ws_F_adjust : List Cond := Cond.code y_F_adjust b_F_adjust 5 none :: tb
def y_X_cut : MethodName := ⟨"HeapSteps", "cut", "(JJJ)J"⟩
abbrev b_X_cut : ByteArray := prog_1_method_24_code
abbrev ws_X_cut : List Cond := Cond.code y_X_cut b_X_cut 6 (some .long) :: tb
def y_J_floorDiv : MethodName := ⟨"java/lang/Math", "floorDiv", "(JJ)J"⟩
abbrev b_J_floorDiv : ByteArray := prog_7_method_49_code
abbrev ws_J_floorDiv : List Cond := Cond.code y_J_floorDiv b_J_floorDiv 6 (some .long) :: tb
def y_X_left : MethodName := ⟨"HeapSteps", "left", "(II)J"⟩
abbrev b_X_left : ByteArray := prog_1_method_13_code
abbrev ws_X_left : List Cond := Cond.code y_X_left b_X_left 4 (some .long) :: tb
def y_X_wet : MethodName := ⟨"HeapSteps", "wet", "(I)J"⟩
abbrev b_X_wet : ByteArray := prog_1_method_14_code
abbrev ws_X_wet : List Cond := Cond.code y_X_wet b_X_wet 3 (some .long) :: tb
def y_X_warmth : MethodName := ⟨"HeapSteps", "warmth", "(I)J"⟩
abbrev b_X_warmth : ByteArray := prog_1_method_15_code
abbrev ws_X_warmth : List Cond := Cond.code y_X_warmth b_X_warmth 3 (some .long) :: tb
def y_X_air : MethodName := ⟨"HeapSteps", "air", "()I"⟩
abbrev b_X_air : ByteArray := prog_1_method_16_code
abbrev ws_X_air : List Cond := Cond.code y_X_air b_X_air 1 (some .int) :: tb
def y_X_turn : MethodName := ⟨"HeapSteps", "turn", "()I"⟩
abbrev b_X_turn : ByteArray := prog_1_method_17_code
abbrev ws_X_turn : List Cond := Cond.code y_X_turn b_X_turn 2 (some .int) :: tb
def y_X_shareOut : MethodName := ⟨"HeapSteps", "shareOut", "(I)V"⟩
abbrev b_X_shareOut : ByteArray := prog_1_method_35_code
abbrev ws_X_shareOut : List Cond := Cond.code y_X_shareOut b_X_shareOut 10 none :: tb
def y_X_inAllLayers : MethodName := ⟨"HeapSteps", "inAllLayers", "(I)J"⟩
abbrev b_X_inAllLayers : ByteArray := prog_1_method_34_code
abbrev ws_X_inAllLayers : List Cond := Cond.code y_X_inAllLayers b_X_inAllLayers 8 (some .long) :: tb
def y_X_gone : MethodName := ⟨"HeapSteps", "gone", "(I)J"⟩
abbrev b_X_gone : ByteArray := prog_1_method_18_code
abbrev ws_X_gone : List Cond := Cond.code y_X_gone b_X_gone 2 (some .long) :: tb
def y_X_balance : MethodName := ⟨"HeapSteps", "balance", "(I)J"⟩
abbrev b_X_balance : ByteArray := prog_1_method_19_code
abbrev ws_X_balance : List Cond := Cond.code y_X_balance b_X_balance 2 (some .long) :: tb
def y_X_putInLessThere : MethodName := ⟨"HeapSteps", "putInLessThere", "(I)J"⟩
abbrev b_X_putInLessThere : ByteArray := prog_1_method_36_code
abbrev ws_X_putInLessThere : List Cond := Cond.code y_X_putInLessThere b_X_putInLessThere 2 (some .long) :: tb
def y_X_batch : MethodName := ⟨"HeapSteps", "batch", "()J"⟩
abbrev b_X_batch : ByteArray := prog_1_method_20_code
abbrev ws_X_batch : List Cond := Cond.code y_X_batch b_X_batch 8 (some .long) :: tb
def y_L_cell : MethodName := ⟨"HeapStepsLaw", "cell", "([II)I"⟩
abbrev b_L_cell : ByteArray := method_2_code
abbrev ws_L_cell : List Cond := Cond.code y_L_cell b_L_cell 2 (some .int) :: tb
def y_M_init : MethodName := ⟨"HeapStepsModel", "<init>", "(I)V"⟩
abbrev b_M_init : ByteArray := prog_6_method_1_code
abbrev ws_M_init : List Cond := Cond.code y_M_init b_M_init 3 none :: tb
def y_M_part : MethodName := ⟨"HeapStepsModel", "part", "(III)Z"⟩
abbrev b_M_part : ByteArray := prog_6_method_6_code
abbrev ws_M_part : List Cond := Cond.code y_M_part b_M_part 4 (some .boolean) :: tb
def y_M_isLayer : MethodName := ⟨"HeapStepsModel", "isLayer", "(I)Z"⟩
abbrev b_M_isLayer : ByteArray := prog_6_method_4_code
abbrev ws_M_isLayer : List Cond := Cond.code y_M_isLayer b_M_isLayer 2 (some .boolean) :: tb
def y_M_isPart : MethodName := ⟨"HeapStepsModel", "isPart", "(I)Z"⟩
abbrev b_M_isPart : ByteArray := prog_6_method_5_code
abbrev ws_M_isPart : List Cond := Cond.code y_M_isPart b_M_isPart 1 (some .boolean) :: tb
def y_M_isIn : MethodName := ⟨"HeapStepsModel", "isIn", "(JJJ)Z"⟩
abbrev b_M_isIn : ByteArray := prog_6_method_3_code
abbrev ws_M_isIn : List Cond := Cond.code y_M_isIn b_M_isIn 6 (some .boolean) :: tb
def y_M_water : MethodName := ⟨"HeapStepsModel", "water", "(II)Z"⟩
abbrev b_M_water : ByteArray := prog_6_method_7_code
abbrev ws_M_water : List Cond := Cond.code y_M_water b_M_water 3 (some .boolean) :: tb
def y_M_heat : MethodName := ⟨"HeapStepsModel", "heat", "(II)Z"⟩
abbrev b_M_heat : ByteArray := prog_6_method_8_code
abbrev ws_M_heat : List Cond := Cond.code y_M_heat b_M_heat 3 (some .boolean) :: tb
def y_M_rate : MethodName := ⟨"HeapStepsModel", "rate", "(III)Z"⟩
abbrev b_M_rate : ByteArray := prog_6_method_9_code
abbrev ws_M_rate : List Cond := Cond.code y_M_rate b_M_rate 5 (some .boolean) :: tb
def y_M_yields : MethodName := ⟨"HeapStepsModel", "yields", "(III)Z"⟩
abbrev b_M_yields : ByteArray := prog_6_method_10_code
abbrev ws_M_yields : List Cond := Cond.code y_M_yields b_M_yields 4 (some .boolean) :: tb
def y_M_bounds : MethodName := ⟨"HeapStepsModel", "bounds", "(III)Z"⟩
abbrev b_M_bounds : ByteArray := prog_6_method_11_code
abbrev ws_M_bounds : List Cond := Cond.code y_M_bounds b_M_bounds 4 (some .boolean) :: tb
def y_M_rain : MethodName := ⟨"HeapStepsModel", "rain", "(I)Z"⟩
abbrev b_M_rain : ByteArray := prog_6_method_12_code
abbrev ws_M_rain : List Cond := Cond.code y_M_rain b_M_rain 2 (some .boolean) :: tb
def y_M_loss : MethodName := ⟨"HeapStepsModel", "loss", "(I)Z"⟩
abbrev b_M_loss : ByteArray := prog_6_method_13_code
abbrev ws_M_loss : List Cond := Cond.code y_M_loss b_M_loss 2 (some .boolean) :: tb
def y_M_fan : MethodName := ⟨"HeapStepsModel", "fan", "(III)Z"⟩
abbrev b_M_fan : ByteArray := prog_6_method_14_code
abbrev ws_M_fan : List Cond := Cond.code y_M_fan b_M_fan 4 (some .boolean) :: tb
def y_M_limit : MethodName := ⟨"HeapStepsModel", "limit", "(I)Z"⟩
abbrev b_M_limit : ByteArray := prog_6_method_15_code
abbrev ws_M_limit : List Cond := Cond.code y_M_limit b_M_limit 2 (some .boolean) :: tb
def y_M_run : MethodName := ⟨"HeapStepsModel", "run", "(I)I"⟩
abbrev b_M_run : ByteArray := prog_6_method_26_code
abbrev ws_M_run : List Cond := Cond.code y_M_run b_M_run 3 (some .int) :: tb
def y_M_warmest : MethodName := ⟨"HeapStepsModel", "warmest", "()J"⟩
abbrev b_M_warmest : ByteArray := prog_6_method_24_code
abbrev ws_M_warmest : List Cond := Cond.code y_M_warmest b_M_warmest 4 (some .long) :: tb
def y_M_warmthOf : MethodName := ⟨"HeapStepsModel", "warmthOf", "(I)J"⟩
abbrev b_M_warmthOf : ByteArray := prog_6_method_18_code
abbrev ws_M_warmthOf : List Cond := Cond.code y_M_warmthOf b_M_warmthOf 2 (some .long) :: tb
def y_M_massOf : MethodName := ⟨"HeapStepsModel", "massOf", "(I)J"⟩
abbrev b_M_massOf : ByteArray := prog_6_method_17_code
abbrev ws_M_massOf : List Cond := Cond.code y_M_massOf b_M_massOf 5 (some .long) :: tb
def y_M_minute : MethodName := ⟨"HeapStepsModel", "minute", "()V"⟩
abbrev b_M_minute : ByteArray := prog_6_method_25_code
abbrev ws_M_minute : List Cond := Cond.code y_M_minute b_M_minute 4 none :: tb
def y_M_breaks : MethodName := ⟨"HeapStepsModel", "breaks", "(I)V"⟩
abbrev b_M_breaks : ByteArray := prog_6_method_20_code
abbrev ws_M_breaks : List Cond := Cond.code y_M_breaks b_M_breaks 11 none :: tb
def y_M_rateOf : MethodName := ⟨"HeapStepsModel", "rateOf", "(IJ)J"⟩
abbrev b_M_rateOf : ByteArray := prog_6_method_19_code
abbrev ws_M_rateOf : List Cond := Cond.code y_M_rateOf b_M_rateOf 7 (some .long) :: tb
def y_M_partOf : MethodName := ⟨"HeapStepsModel", "partOf", "(JJ)J"⟩
abbrev b_M_partOf : ByteArray := prog_6_method_16_code
abbrev ws_M_partOf : List Cond := Cond.code y_M_partOf b_M_partOf 4 (some .long) :: tb
def y_M_loses : MethodName := ⟨"HeapStepsModel", "loses", "(I)V"⟩
abbrev b_M_loses : ByteArray := prog_6_method_21_code
abbrev ws_M_loses : List Cond := Cond.code y_M_loses b_M_loses 8 none :: tb
def y_M_setFan : MethodName := ⟨"HeapStepsModel", "setFan", "()V"⟩
abbrev b_M_setFan : ByteArray := prog_6_method_23_code
abbrev ws_M_setFan : List Cond := Cond.code y_M_setFan b_M_setFan 7 none :: tb
def y_M_cut : MethodName := ⟨"HeapStepsModel", "cut", "(JJJ)J"⟩
abbrev b_M_cut : ByteArray := prog_6_method_22_code
abbrev ws_M_cut : List Cond := Cond.code y_M_cut b_M_cut 6 (some .long) :: tb
def y_M_left : MethodName := ⟨"HeapStepsModel", "left", "(II)J"⟩
abbrev b_M_left : ByteArray := prog_6_method_27_code
abbrev ws_M_left : List Cond := Cond.code y_M_left b_M_left 3 (some .long) :: tb
def y_M_wet : MethodName := ⟨"HeapStepsModel", "wet", "(I)J"⟩
abbrev b_M_wet : ByteArray := prog_6_method_28_code
abbrev ws_M_wet : List Cond := Cond.code y_M_wet b_M_wet 2 (some .long) :: tb
def y_M_warmth : MethodName := ⟨"HeapStepsModel", "warmth", "(I)J"⟩
abbrev b_M_warmth : ByteArray := prog_6_method_29_code
abbrev ws_M_warmth : List Cond := Cond.code y_M_warmth b_M_warmth 2 (some .long) :: tb
def y_M_air : MethodName := ⟨"HeapStepsModel", "air", "()I"⟩
abbrev b_M_air : ByteArray := prog_6_method_30_code
abbrev ws_M_air : List Cond := Cond.code y_M_air b_M_air 1 (some .int) :: tb
def y_M_turn : MethodName := ⟨"HeapStepsModel", "turn", "()I"⟩
abbrev b_M_turn : ByteArray := prog_6_method_32_code
abbrev ws_M_turn : List Cond := Cond.code y_M_turn b_M_turn 6 (some .int) :: tb
def y_M_shareOf : MethodName := ⟨"HeapStepsModel", "shareOf", "(JI)J"⟩
abbrev b_M_shareOf : ByteArray := prog_6_method_31_code
abbrev ws_M_shareOf : List Cond := Cond.code y_M_shareOf b_M_shareOf 4 (some .long) :: tb
def y_M_gone : MethodName := ⟨"HeapStepsModel", "gone", "(I)J"⟩
abbrev b_M_gone : ByteArray := prog_6_method_33_code
abbrev ws_M_gone : List Cond := Cond.code y_M_gone b_M_gone 2 (some .long) :: tb
def y_M_balance : MethodName := ⟨"HeapStepsModel", "balance", "(I)J"⟩
abbrev b_M_balance : ByteArray := prog_6_method_35_code
abbrev ws_M_balance : List Cond := Cond.code y_M_balance b_M_balance 4 (some .long) :: tb
def y_M_there : MethodName := ⟨"HeapStepsModel", "there", "(I)J"⟩
abbrev b_M_there : ByteArray := prog_6_method_34_code
abbrev ws_M_there : List Cond := Cond.code y_M_there b_M_there 5 (some .long) :: tb
def y_M_batch : MethodName := ⟨"HeapStepsModel", "batch", "()J"⟩
abbrev b_M_batch : ByteArray := prog_6_method_36_code
abbrev ws_M_batch : List Cond := Cond.code y_M_batch b_M_batch 5 (some .long) :: tb

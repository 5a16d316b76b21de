def RX0 : String := "PlotKernel$Command"
def TX0 : u_T := fun k => match k with
  | 0 => ("PlotKernel$Command", "kind", "I", true)
  | 1 => ("PlotKernel$Command", "dx", "I", true)
  | 2 => ("PlotKernel$Command", "dy", "I", true)
  | _ => ("PlotKernel$Command", "pen", "I", true)
def tyX0 : Nat → FieldType := fun k => match k with
  | 0 => .int
  | 1 => .int
  | 2 => .int
  | _ => .int
theorem nmX0 : ∀ a, a < 4 → ∀ b, b < 4 → a ≠ b → (TX0 a).2.1 ≠ (TX0 b).2.1 := by decide +kernel
theorem tyX0_ok : ∀ k, k < 4 → parseFieldDescriptor (TX0 k).2.2.1 = some (tyX0 k) := by decide +kernel
abbrev cX0_init : ByteArray := prog_2_method_1_code
def yX0_init : MethodName := ⟨RX0, "<init>", "(IIII)V"⟩
abbrev cX0_draws : ByteArray := prog_2_method_2_code
def yX0_draws : MethodName := ⟨RX0, "draws", "()Z"⟩
abbrev cX0_steps : ByteArray := prog_2_method_3_code
def yX0_steps : MethodName := ⟨RX0, "steps", "()I"⟩
abbrev cX0_wayX : ByteArray := prog_2_method_4_code
def yX0_wayX : MethodName := ⟨RX0, "wayX", "(I)I"⟩
abbrev cX0_wayY : ByteArray := prog_2_method_5_code
def yX0_wayY : MethodName := ⟨RX0, "wayY", "(I)I"⟩
abbrev cX0_way : ByteArray := prog_2_method_6_code
def yX0_way : MethodName := ⟨RX0, "way", "(II)I"⟩
def RX1 : String := "PlotKernel$Paper"
def TX1 : u_T := fun k => match k with
  | 0 => ("PlotKernel$Paper", "words", "[J", true)
  | _ => ("PlotKernel$Paper", "markCount", "I", false)
def tyX1 : Nat → FieldType := fun k => match k with
  | 0 => .array .long
  | _ => .int
theorem nmX1 : ∀ a, a < 2 → ∀ b, b < 2 → a ≠ b → (TX1 a).2.1 ≠ (TX1 b).2.1 := by decide +kernel
theorem tyX1_ok : ∀ k, k < 2 → parseFieldDescriptor (TX1 k).2.2.1 = some (tyX1 k) := by decide +kernel
abbrev cX1_init : ByteArray := prog_3_method_1_code
def yX1_init : MethodName := ⟨RX1, "<init>", "()V"⟩
abbrev cX1_hasMark : ByteArray := prog_3_method_2_code
def yX1_hasMark : MethodName := ⟨RX1, "hasMark", "(II)Z"⟩
abbrev cX1_putMark : ByteArray := prog_3_method_3_code
def yX1_putMark : MethodName := ⟨RX1, "putMark", "(II)V"⟩
abbrev cX1_wordOf : ByteArray := prog_3_method_4_code
def yX1_wordOf : MethodName := ⟨RX1, "wordOf", "(II)I"⟩
abbrev cX1_bitOf : ByteArray := prog_3_method_5_code
def yX1_bitOf : MethodName := ⟨RX1, "bitOf", "(II)J"⟩
def RX2 : String := "PlotKernel"
def TX2 : u_T := fun k => match k with
  | 0 => ("PlotKernel", "queue", "Ljava/util/ArrayList;", true)
  | 1 => ("PlotKernel", "paper", "LPlotKernel$Paper;", true)
  | 2 => ("PlotKernel", "plan", "LPlotKernel$Paper;", true)
  | 3 => ("PlotKernel", "inkLeft", "[I", true)
  | 4 => ("PlotKernel", "opcode", "I", false)
  | 5 => ("PlotKernel", "firstByte", "I", false)
  | 6 => ("PlotKernel", "pendingBytes", "I", false)
  | 7 => ("PlotKernel", "errorCount", "I", false)
  | 8 => ("PlotKernel", "latest", "LPlotKernel$Command;", false)
  | 9 => ("PlotKernel", "endX", "I", false)
  | 10 => ("PlotKernel", "endY", "I", false)
  | 11 => ("PlotKernel", "startX", "I", false)
  | 12 => ("PlotKernel", "startY", "I", false)
  | 13 => ("PlotKernel", "stepsDone", "I", false)
  | 14 => ("PlotKernel", "begunTicks", "I", false)
  | 15 => ("PlotKernel", "penDown", "Z", false)
  | 16 => ("PlotKernel", "penHeld", "I", false)
  | 17 => ("PlotKernel", "upSteps", "I", false)
  | _ => ("PlotKernel", "downSteps", "I", false)
def tyX2 : Nat → FieldType := fun k => match k with
  | 0 => .object "java/util/ArrayList"
  | 1 => .object "PlotKernel$Paper"
  | 2 => .object "PlotKernel$Paper"
  | 3 => .array .int
  | 4 => .int
  | 5 => .int
  | 6 => .int
  | 7 => .int
  | 8 => .object "PlotKernel$Command"
  | 9 => .int
  | 10 => .int
  | 11 => .int
  | 12 => .int
  | 13 => .int
  | 14 => .int
  | 15 => .boolean
  | 16 => .int
  | 17 => .int
  | _ => .int
theorem nmX2 : ∀ a, a < 19 → ∀ b, b < 19 → a ≠ b → (TX2 a).2.1 ≠ (TX2 b).2.1 := by decide +kernel
theorem tyX2_ok : ∀ k, k < 19 → parseFieldDescriptor (TX2 k).2.2.1 = some (tyX2 k) := by decide +kernel
abbrev cX2_init : ByteArray := prog_1_method_1_code
def yX2_init : MethodName := ⟨RX2, "<init>", "()V"⟩
abbrev cX2_feed : ByteArray := prog_1_method_2_code
def yX2_feed : MethodName := ⟨RX2, "feed", "(I)Z"⟩
abbrev cX2_errors : ByteArray := prog_1_method_3_code
def yX2_errors : MethodName := ⟨RX2, "errors", "()I"⟩
abbrev cX2_queued : ByteArray := prog_1_method_4_code
def yX2_queued : MethodName := ⟨RX2, "queued", "()I"⟩
abbrev cX2_pending : ByteArray := prog_1_method_5_code
def yX2_pending : MethodName := ⟨RX2, "pending", "()I"⟩
abbrev cX2_takeByte : ByteArray := prog_1_method_6_code
def yX2_takeByte : MethodName := ⟨RX2, "takeByte", "(I)V"⟩
abbrev cX2_beginCommand : ByteArray := prog_1_method_7_code
def yX2_beginCommand : MethodName := ⟨RX2, "beginCommand", "(I)V"⟩
abbrev cX2_endCommand : ByteArray := prog_1_method_8_code
def yX2_endCommand : MethodName := ⟨RX2, "endCommand", "(I)V"⟩
abbrev cX2_signed : ByteArray := prog_1_method_9_code
def yX2_signed : MethodName := ⟨RX2, "signed", "(I)I"⟩
abbrev cX2_queueMotion : ByteArray := prog_1_method_10_code
def yX2_queueMotion : MethodName := ⟨RX2, "queueMotion", "(LPlotKernel$Command;)V"⟩
abbrev cX2_repeatLatest : ByteArray := prog_1_method_11_code
def yX2_repeatLatest : MethodName := ⟨RX2, "repeatLatest", "(I)V"⟩
abbrev cX2_queueIfRight : ByteArray := prog_1_method_12_code
def yX2_queueIfRight : MethodName := ⟨RX2, "queueIfRight", "(LPlotKernel$Command;)Z"⟩
abbrev cX2_isRight : ByteArray := prog_1_method_13_code
def yX2_isRight : MethodName := ⟨RX2, "isRight", "(LPlotKernel$Command;)Z"⟩
abbrev cX2_planLine : ByteArray := prog_1_method_14_code
def yX2_planLine : MethodName := ⟨RX2, "planLine", "(LPlotKernel$Command;)V"⟩
abbrev cX2_tick : ByteArray := prog_1_method_15_code
def yX2_tick : MethodName := ⟨RX2, "tick", "(I)I"⟩
abbrev cX2_cut : ByteArray := prog_1_method_16_code
def yX2_cut : MethodName := ⟨RX2, "cut", "()I"⟩
abbrev cX2_refill : ByteArray := prog_1_method_17_code
def yX2_refill : MethodName := ⟨RX2, "refill", "(I)I"⟩
abbrev cX2_pour : ByteArray := prog_1_method_18_code
def yX2_pour : MethodName := ⟨RX2, "pour", "(II)I"⟩
abbrev cX2_doTick : ByteArray := prog_1_method_19_code
def yX2_doTick : MethodName := ⟨RX2, "doTick", "()Z"⟩
abbrev cX2_turnPen : ByteArray := prog_1_method_20_code
def yX2_turnPen : MethodName := ⟨RX2, "turnPen", "()V"⟩
abbrev cX2_changePen : ByteArray := prog_1_method_21_code
def yX2_changePen : MethodName := ⟨RX2, "changePen", "(LPlotKernel$Command;)V"⟩
abbrev cX2_doStep : ByteArray := prog_1_method_22_code
def yX2_doStep : MethodName := ⟨RX2, "doStep", "(LPlotKernel$Command;)V"⟩
abbrev cX2_endFirstCommand : ByteArray := prog_1_method_23_code
def yX2_endFirstCommand : MethodName := ⟨RX2, "endFirstCommand", "(LPlotKernel$Command;)V"⟩
abbrev cX2_markHere : ByteArray := prog_1_method_24_code
def yX2_markHere : MethodName := ⟨RX2, "markHere", "()V"⟩
abbrev cX2_at : ByteArray := prog_1_method_25_code
def yX2_at : MethodName := ⟨RX2, "at", "()I"⟩
abbrev cX2_isDown : ByteArray := prog_1_method_26_code
def yX2_isDown : MethodName := ⟨RX2, "isDown", "()Z"⟩
abbrev cX2_pen : ByteArray := prog_1_method_27_code
def yX2_pen : MethodName := ⟨RX2, "pen", "()I"⟩
abbrev cX2_ink : ByteArray := prog_1_method_28_code
def yX2_ink : MethodName := ⟨RX2, "ink", "(I)I"⟩
abbrev cX2_isWaiting : ByteArray := prog_1_method_29_code
def yX2_isWaiting : MethodName := ⟨RX2, "isWaiting", "()Z"⟩
abbrev cX2_timeLeft : ByteArray := prog_1_method_30_code
def yX2_timeLeft : MethodName := ⟨RX2, "timeLeft", "()I"⟩
abbrev cX2_stepsUp : ByteArray := prog_1_method_31_code
def yX2_stepsUp : MethodName := ⟨RX2, "stepsUp", "()I"⟩
abbrev cX2_stepsDown : ByteArray := prog_1_method_32_code
def yX2_stepsDown : MethodName := ⟨RX2, "stepsDown", "()I"⟩
abbrev cX2_firstCommand : ByteArray := prog_1_method_33_code
def yX2_firstCommand : MethodName := ⟨RX2, "firstCommand", "()LPlotKernel$Command;"⟩
abbrev cX2_carriageX : ByteArray := prog_1_method_34_code
def yX2_carriageX : MethodName := ⟨RX2, "carriageX", "()I"⟩
abbrev cX2_carriageY : ByteArray := prog_1_method_35_code
def yX2_carriageY : MethodName := ⟨RX2, "carriageY", "()I"⟩
abbrev cX2_lacksInk : ByteArray := prog_1_method_36_code
def yX2_lacksInk : MethodName := ⟨RX2, "lacksInk", "(LPlotKernel$Command;)Z"⟩
abbrev cX2_hasPen : ByteArray := prog_1_method_37_code
def yX2_hasPen : MethodName := ⟨RX2, "hasPen", "(I)Z"⟩
abbrev cX2_inkOf : ByteArray := prog_1_method_38_code
def yX2_inkOf : MethodName := ⟨RX2, "inkOf", "(I)I"⟩
abbrev cX2_setInk : ByteArray := prog_1_method_39_code
def yX2_setInk : MethodName := ⟨RX2, "setInk", "(II)V"⟩
abbrev cX2_isMarked : ByteArray := prog_1_method_40_code
def yX2_isMarked : MethodName := ⟨RX2, "isMarked", "(II)Z"⟩
abbrev cX2_marks : ByteArray := prog_1_method_41_code
def yX2_marks : MethodName := ⟨RX2, "marks", "()I"⟩
abbrev cX2_marksInTheEnd : ByteArray := prog_1_method_42_code
def yX2_marksInTheEnd : MethodName := ⟨RX2, "marksInTheEnd", "()I"⟩
abbrev cX2_hasCell : ByteArray := prog_1_method_43_code
def yX2_hasCell : MethodName := ⟨RX2, "hasCell", "(II)Z"⟩
def RX3 : String := "PlotKernelModel"
def TX3 : u_T := fun k => match k with
  | _ => ("", "", "", false)
def tyX3 : Nat → FieldType := fun k => match k with
  | _ => .int
theorem nmX3 : ∀ a, a < 0 → ∀ b, b < 0 → a ≠ b → (TX3 a).2.1 ≠ (TX3 b).2.1 := by decide +kernel
theorem tyX3_ok : ∀ k, k < 0 → parseFieldDescriptor (TX3 k).2.2.1 = some (tyX3 k) := by decide +kernel
def RJx145de : String := "java/io/Serializable"
def TJx145de : u_T := fun k => match k with
  | _ => ("", "", "", false)
def tyJx145de : Nat → FieldType := fun k => match k with
  | _ => .int
theorem nmJx145de : ∀ a, a < 0 → ∀ b, b < 0 → a ≠ b → (TJx145de a).2.1 ≠ (TJx145de b).2.1 := by decide +kernel
theorem tyJx145de_ok : ∀ k, k < 0 → parseFieldDescriptor (TJx145de k).2.2.1 = some (tyJx145de k) := by decide +kernel
def RJx8e188 : String := "java/lang/Cloneable"
def TJx8e188 : u_T := fun k => match k with
  | _ => ("", "", "", false)
def tyJx8e188 : Nat → FieldType := fun k => match k with
  | _ => .int
theorem nmJx8e188 : ∀ a, a < 0 → ∀ b, b < 0 → a ≠ b → (TJx8e188 a).2.1 ≠ (TJx8e188 b).2.1 := by decide +kernel
theorem tyJx8e188_ok : ∀ k, k < 0 → parseFieldDescriptor (TJx8e188 k).2.2.1 = some (tyJx8e188 k) := by decide +kernel
def RJxab1ab : String := "java/lang/Iterable"
def TJxab1ab : u_T := fun k => match k with
  | _ => ("", "", "", false)
def tyJxab1ab : Nat → FieldType := fun k => match k with
  | _ => .int
theorem nmJxab1ab : ∀ a, a < 0 → ∀ b, b < 0 → a ≠ b → (TJxab1ab a).2.1 ≠ (TJxab1ab b).2.1 := by decide +kernel
theorem tyJxab1ab_ok : ∀ k, k < 0 → parseFieldDescriptor (TJxab1ab k).2.2.1 = some (tyJxab1ab k) := by decide +kernel
def RJ9 : String := "java/lang/Math"
def TJ9 : u_T := fun k => match k with
  | _ => ("", "", "", false)
def tyJ9 : Nat → FieldType := fun k => match k with
  | _ => .int
theorem nmJ9 : ∀ a, a < 0 → ∀ b, b < 0 → a ≠ b → (TJ9 a).2.1 ≠ (TJ9 b).2.1 := by decide +kernel
theorem tyJ9_ok : ∀ k, k < 0 → parseFieldDescriptor (TJ9 k).2.2.1 = some (tyJ9 k) := by decide +kernel
abbrev cJ9_abs_0f7a4 : ByteArray := prog_12_method_59_code
def yJ9_abs_0f7a4 : MethodName := ⟨RJ9, "abs", "(I)I"⟩
abbrev cJ9_max_7cf53 : ByteArray := prog_12_method_65_code
def yJ9_max_7cf53 : MethodName := ⟨RJ9, "max", "(II)I"⟩
abbrev cJ9_min_7cf53 : ByteArray := prog_12_method_69_code
def yJ9_min_7cf53 : MethodName := ⟨RJ9, "min", "(II)I"⟩
def RJ0 : String := "java/lang/String"
def TJ0 : u_T := fun k => match k with
  | _ => ("", "", "", false)
def tyJ0 : Nat → FieldType := fun k => match k with
  | _ => .int
theorem nmJ0 : ∀ a, a < 0 → ∀ b, b < 0 → a ≠ b → (TJ0 a).2.1 ≠ (TJ0 b).2.1 := by decide +kernel
theorem tyJ0_ok : ∀ k, k < 0 → parseFieldDescriptor (TJ0 k).2.2.1 = some (tyJ0 k) := by decide +kernel
def RJ10 : String := "java/lang/System"
def TJ10 : u_T := fun k => match k with
  | _ => ("", "", "", false)
def tyJ10 : Nat → FieldType := fun k => match k with
  | _ => .int
theorem nmJ10 : ∀ a, a < 0 → ∀ b, b < 0 → a ≠ b → (TJ10 a).2.1 ≠ (TJ10 b).2.1 := by decide +kernel
theorem tyJ10_ok : ∀ k, k < 0 → parseFieldDescriptor (TJ10 k).2.2.1 = some (tyJ10 k) := by decide +kernel
def RJxa1e45 : String := "java/util/AbstractCollection"
def TJxa1e45 : u_T := fun k => match k with
  | _ => ("", "", "", false)
def tyJxa1e45 : Nat → FieldType := fun k => match k with
  | _ => .int
theorem nmJxa1e45 : ∀ a, a < 0 → ∀ b, b < 0 → a ≠ b → (TJxa1e45 a).2.1 ≠ (TJxa1e45 b).2.1 := by decide +kernel
theorem tyJxa1e45_ok : ∀ k, k < 0 → parseFieldDescriptor (TJxa1e45 k).2.2.1 = some (tyJxa1e45 k) := by decide +kernel
abbrev cJxa1e45_init_da8c8 : ByteArray := prog_17_method_1_code
def yJxa1e45_init_da8c8 : MethodName := ⟨RJxa1e45, "<init>", "()V"⟩
def RJxc12de : String := "java/util/AbstractList"
def TJxc12de : u_T := fun k => match k with
  | _ => ("", "", "", false)
def tyJxc12de : Nat → FieldType := fun k => match k with
  | _ => .int
theorem nmJxc12de : ∀ a, a < 0 → ∀ b, b < 0 → a ≠ b → (TJxc12de a).2.1 ≠ (TJxc12de b).2.1 := by decide +kernel
theorem tyJxc12de_ok : ∀ k, k < 0 → parseFieldDescriptor (TJxc12de k).2.2.1 = some (tyJxc12de k) := by decide +kernel
abbrev cJxc12de_init_da8c8 : ByteArray := prog_18_method_1_code
def yJxc12de_init_da8c8 : MethodName := ⟨RJxc12de, "<init>", "()V"⟩
def RJx4a65c : String := "java/util/ArrayList"
def TJx4a65c : u_T := fun k => match k with
  | 0 => ("java/util/AbstractList", "modCount", "I", false)
  | 1 => ("java/util/ArrayList", "elementData", "[Ljava/lang/Object;", false)
  | _ => ("java/util/ArrayList", "size", "I", false)
def tyJx4a65c : Nat → FieldType := fun k => match k with
  | 0 => .int
  | 1 => .array (.object "java/lang/Object")
  | _ => .int
theorem nmJx4a65c : ∀ a, a < 3 → ∀ b, b < 3 → a ≠ b → (TJx4a65c a).2.1 ≠ (TJx4a65c b).2.1 := by decide +kernel
theorem tyJx4a65c_ok : ∀ k, k < 3 → parseFieldDescriptor (TJx4a65c k).2.2.1 = some (tyJx4a65c k) := by decide +kernel
abbrev cJx4a65c_init_da8c8 : ByteArray := prog_19_method_2_code
def yJx4a65c_init_da8c8 : MethodName := ⟨RJx4a65c, "<init>", "()V"⟩
abbrev cJx4a65c_grow_92f84 : ByteArray := prog_19_method_6_code
def yJx4a65c_grow_92f84 : MethodName := ⟨RJx4a65c, "grow", "(I)[Ljava/lang/Object;"⟩
abbrev cJx4a65c_grow_d5877 : ByteArray := prog_19_method_7_code
def yJx4a65c_grow_d5877 : MethodName := ⟨RJx4a65c, "grow", "()[Ljava/lang/Object;"⟩
abbrev cJx4a65c_size_8abf5 : ByteArray := prog_19_method_8_code
def yJx4a65c_size_8abf5 : MethodName := ⟨RJx4a65c, "size", "()I"⟩
abbrev cJx4a65c_isEmpty_aae02 : ByteArray := prog_19_method_9_code
def yJx4a65c_isEmpty_aae02 : MethodName := ⟨RJx4a65c, "isEmpty", "()Z"⟩
abbrev cJx4a65c_elementData_915e3 : ByteArray := prog_19_method_18_code
def yJx4a65c_elementData_915e3 : MethodName := ⟨RJx4a65c, "elementData", "(I)Ljava/lang/Object;"⟩
abbrev cJx4a65c_get_915e3 : ByteArray := prog_19_method_20_code
def yJx4a65c_get_915e3 : MethodName := ⟨RJx4a65c, "get", "(I)Ljava/lang/Object;"⟩
abbrev cJx4a65c_add_72be8 : ByteArray := prog_19_method_24_code
def yJx4a65c_add_72be8 : MethodName := ⟨RJx4a65c, "add", "(Ljava/lang/Object;[Ljava/lang/Object;I)V"⟩
abbrev cJx4a65c_add_9ea2d : ByteArray := prog_19_method_25_code
def yJx4a65c_add_9ea2d : MethodName := ⟨RJx4a65c, "add", "(Ljava/lang/Object;)Z"⟩
abbrev cJx4a65c_remove_915e3 : ByteArray := prog_19_method_29_code
def yJx4a65c_remove_915e3 : MethodName := ⟨RJx4a65c, "remove", "(I)Ljava/lang/Object;"⟩
abbrev cJx4a65c_fastRemove_b59b0 : ByteArray := prog_19_method_39_code
def yJx4a65c_fastRemove_b59b0 : MethodName := ⟨RJx4a65c, "fastRemove", "([Ljava/lang/Object;I)V"⟩
def RJ7 : String := "java/util/Arrays"
def TJ7 : u_T := fun k => match k with
  | _ => ("", "", "", false)
def tyJ7 : Nat → FieldType := fun k => match k with
  | _ => .int
theorem nmJ7 : ∀ a, a < 0 → ∀ b, b < 0 → a ≠ b → (TJ7 a).2.1 ≠ (TJ7 b).2.1 := by decide +kernel
theorem tyJ7_ok : ∀ k, k < 0 → parseFieldDescriptor (TJ7 k).2.2.1 = some (tyJ7 k) := by decide +kernel
abbrev cJ7_copyOf_1904c : ByteArray := prog_20_method_119_code
def yJ7_copyOf_1904c : MethodName := ⟨RJ7, "copyOf", "([Ljava/lang/Object;I)[Ljava/lang/Object;"⟩
abbrev cJ7_copyOf_6403c : ByteArray := prog_20_method_120_code
def yJ7_copyOf_6403c : MethodName := ⟨RJ7, "copyOf", "([Ljava/lang/Object;ILjava/lang/Class;)[Ljava/lang/Object;"⟩
def RJx5ef63 : String := "java/util/Collection"
def TJx5ef63 : u_T := fun k => match k with
  | _ => ("", "", "", false)
def tyJx5ef63 : Nat → FieldType := fun k => match k with
  | _ => .int
theorem nmJx5ef63 : ∀ a, a < 0 → ∀ b, b < 0 → a ≠ b → (TJx5ef63 a).2.1 ≠ (TJx5ef63 b).2.1 := by decide +kernel
theorem tyJx5ef63_ok : ∀ k, k < 0 → parseFieldDescriptor (TJx5ef63 k).2.2.1 = some (tyJx5ef63 k) := by decide +kernel
def RJxbd725 : String := "java/util/List"
def TJxbd725 : u_T := fun k => match k with
  | _ => ("", "", "", false)
def tyJxbd725 : Nat → FieldType := fun k => match k with
  | _ => .int
theorem nmJxbd725 : ∀ a, a < 0 → ∀ b, b < 0 → a ≠ b → (TJxbd725 a).2.1 ≠ (TJxbd725 b).2.1 := by decide +kernel
theorem tyJxbd725_ok : ∀ k, k < 0 → parseFieldDescriptor (TJxbd725 k).2.2.1 = some (tyJxbd725 k) := by decide +kernel
def RJ15 : String := "java/util/Objects"
def TJ15 : u_T := fun k => match k with
  | _ => ("", "", "", false)
def tyJ15 : Nat → FieldType := fun k => match k with
  | _ => .int
theorem nmJ15 : ∀ a, a < 0 → ∀ b, b < 0 → a ≠ b → (TJ15 a).2.1 ≠ (TJ15 b).2.1 := by decide +kernel
theorem tyJ15_ok : ∀ k, k < 0 → parseFieldDescriptor (TJ15 k).2.2.1 = some (tyJ15 k) := by decide +kernel
abbrev cJ15_checkIndex_7cf53 : ByteArray := prog_23_method_17_code
def yJ15_checkIndex_7cf53 : MethodName := ⟨RJ15, "checkIndex", "(II)I"⟩
def RJxf0a74 : String := "java/util/RandomAccess"
def TJxf0a74 : u_T := fun k => match k with
  | _ => ("", "", "", false)
def tyJxf0a74 : Nat → FieldType := fun k => match k with
  | _ => .int
theorem nmJxf0a74 : ∀ a, a < 0 → ∀ b, b < 0 → a ≠ b → (TJxf0a74 a).2.1 ≠ (TJxf0a74 b).2.1 := by decide +kernel
theorem tyJxf0a74_ok : ∀ k, k < 0 → parseFieldDescriptor (TJxf0a74 k).2.2.1 = some (tyJxf0a74 k) := by decide +kernel
def RJxa66e6 : String := "java/util/SequencedCollection"
def TJxa66e6 : u_T := fun k => match k with
  | _ => ("", "", "", false)
def tyJxa66e6 : Nat → FieldType := fun k => match k with
  | _ => .int
theorem nmJxa66e6 : ∀ a, a < 0 → ∀ b, b < 0 → a ≠ b → (TJxa66e6 a).2.1 ≠ (TJxa66e6 b).2.1 := by decide +kernel
theorem tyJxa66e6_ok : ∀ k, k < 0 → parseFieldDescriptor (TJxa66e6 k).2.2.1 = some (tyJxa66e6 k) := by decide +kernel
def RJ8 : String := "jdk/internal/util/ArraysSupport"
def TJ8 : u_T := fun k => match k with
  | _ => ("", "", "", false)
def tyJ8 : Nat → FieldType := fun k => match k with
  | _ => .int
theorem nmJ8 : ∀ a, a < 0 → ∀ b, b < 0 → a ≠ b → (TJ8 a).2.1 ≠ (TJ8 b).2.1 := by decide +kernel
theorem tyJ8_ok : ∀ k, k < 0 → parseFieldDescriptor (TJ8 k).2.2.1 = some (tyJ8 k) := by decide +kernel
abbrev cJ8_newLength_cabcc : ByteArray := prog_26_method_27_code
def yJ8_newLength_cabcc : MethodName := ⟨RJ8, "newLength", "(III)I"⟩
abbrev cJ8_hugeLength_7cf53 : ByteArray := prog_26_method_28_code
def yJ8_hugeLength_7cf53 : MethodName := ⟨RJ8, "hugeLength", "(II)I"⟩
def RJ3 : String := "jdk/internal/util/Preconditions"
def TJ3 : u_T := fun k => match k with
  | _ => ("", "", "", false)
def tyJ3 : Nat → FieldType := fun k => match k with
  | _ => .int
theorem nmJ3 : ∀ a, a < 0 → ∀ b, b < 0 → a ≠ b → (TJ3 a).2.1 ≠ (TJ3 b).2.1 := by decide +kernel
theorem tyJ3_ok : ∀ k, k < 0 → parseFieldDescriptor (TJ3 k).2.2.1 = some (tyJ3 k) := by decide +kernel
abbrev cJ3_checkIndex_8e157 : ByteArray := prog_27_method_11_code
def yJ3_checkIndex_8e157 : MethodName := ⟨RJ3, "checkIndex", "(IILjava/util/function/BiFunction;)I"⟩
def RL : String := "PlotKernelLaw"
abbrev cL_dice : ByteArray := method_2_code
def yL_dice : MethodName := ⟨RL, "dice", "([II)I"⟩
abbrev cL_act : ByteArray := method_3_code
def yL_act : MethodName := ⟨RL, "act", "(LPlotKernel;III)I"⟩
abbrev cL_all : ByteArray := method_4_code
def yL_all : MethodName := ⟨RL, "all", "(LPlotKernel;)J"⟩
abbrev cL_size : ByteArray := method_5_code
def yL_size : MethodName := ⟨RL, "size", "(II)I"⟩
abbrev cL_moves : ByteArray := method_6_code
def yL_moves : MethodName := ⟨RL, "moves", "([I[I)V"⟩
abbrev cL_queues : ByteArray := method_7_code
def yL_queues : MethodName := ⟨RL, "queues", "([I[IIII)Z"⟩
abbrev cL_due : ByteArray := method_8_code
def yL_due : MethodName := ⟨RL, "due", "(LPlotKernel;[I[I)I"⟩
abbrev cL_isOnLine : ByteArray := method_9_code
def yL_isOnLine : MethodName := ⟨RL, "isOnLine", "(LPlotKernel;[I[I)Z"⟩
abbrev cL_cell : ByteArray := method_10_code
def yL_cell : MethodName := ⟨RL, "cell", "([II)I"⟩
abbrev cL_isMarkedHere : ByteArray := method_11_code
def yL_isMarkedHere : MethodName := ⟨RL, "isMarkedHere", "(LPlotKernel;)Z"⟩
abbrev cL_isSent : ByteArray := method_12_code
def yL_isSent : MethodName := ⟨RL, "isSent", "(LPlotKernel;[I[IIII)Z"⟩
abbrev cL_isTicked : ByteArray := method_13_code
def yL_isTicked : MethodName := ⟨RL, "isTicked", "(LPlotKernel;[I[I)Z"⟩
abbrev cL_isCut : ByteArray := method_14_code
def yL_isCut : MethodName := ⟨RL, "isCut", "(LPlotKernel;[I[I)Z"⟩
abbrev cL_isRefused : ByteArray := method_15_code
def yL_isRefused : MethodName := ⟨RL, "isRefused", "(LPlotKernel;I)Z"⟩
abbrev cL_law : ByteArray := code
def yL_law : MethodName := ⟨RL, "law", "([I)Z"⟩
abbrev vwCl : List vw_C := [(RJx4a65c, TJx4a65c, 3), (RX0, TX0, 4), (RX1, TX1, 2), (RX2, TX2, 19)]

def RX0 : String := "RumourPipes$Lift"
def TX0 : u_T := fun k => match k with
  | 0 => ("RumourPipes$Lift", "running", "Z", false)
  | 1 => ("RumourPipes$Lift", "waits", "I", false)
  | _ => ("RumourPipes$Lift", "stops", "[Z", true)
def tyX0 : Nat → FieldType := fun k => match k with
  | 0 => .boolean
  | 1 => .int
  | _ => .array .boolean
theorem nmX0 : ∀ a, a < 3 → ∀ b, b < 3 → a ≠ b → (TX0 a).2.1 ≠ (TX0 b).2.1 := by decide +kernel
theorem tyX0_ok : ∀ k, k < 3 → parseFieldDescriptor (TX0 k).2.2.1 = some (tyX0 k) := by decide +kernel
abbrev cX0_init : ByteArray := prog_2_method_1_code
def yX0_init : MethodName := ⟨RX0, "<init>", "()V"⟩
abbrev cX0_set : ByteArray := prog_2_method_2_code
def yX0_set : MethodName := ⟨RX0, "set", "(IIII)V"⟩
abbrev cX0_hoursBetween : ByteArray := prog_2_method_3_code
def yX0_hoursBetween : MethodName := ⟨RX0, "hoursBetween", "(II)I"⟩
def RX1 : String := "RumourPipes$Rumour"
def TX1 : u_T := fun k => match k with
  | 0 => ("RumourPipes$Rumour", "origin", "I", false)
  | 1 => ("RumourPipes$Rumour", "reach", "I", false)
  | 2 => ("RumourPipes$Rumour", "state", "[I", true)
  | 3 => ("RumourPipes$Rumour", "heardIn", "[I", true)
  | 4 => ("RumourPipes$Rumour", "deniedIn", "[I", true)
  | 5 => ("RumourPipes$Rumour", "pipesGone", "[I", true)
  | 6 => ("RumourPipes$Rumour", "tellsIn", "[I", true)
  | 7 => ("RumourPipes$Rumour", "deniesIn", "[I", true)
  | 8 => ("RumourPipes$Rumour", "comesIn", "[I", true)
  | 9 => ("RumourPipes$Rumour", "comesByPipes", "[I", true)
  | _ => ("RumourPipes$Rumour", "denialComesIn", "[I", true)
def tyX1 : Nat → FieldType := fun k => match k with
  | 0 => .int
  | 1 => .int
  | 2 => .array .int
  | 3 => .array .int
  | 4 => .array .int
  | 5 => .array .int
  | 6 => .array .int
  | 7 => .array .int
  | 8 => .array .int
  | 9 => .array .int
  | _ => .array .int
theorem nmX1 : ∀ a, a < 11 → ∀ b, b < 11 → a ≠ b → (TX1 a).2.1 ≠ (TX1 b).2.1 := by decide +kernel
theorem tyX1_ok : ∀ k, k < 11 → parseFieldDescriptor (TX1 k).2.2.1 = some (tyX1 k) := by decide +kernel
abbrev cX1_init : ByteArray := prog_3_method_1_code
def yX1_init : MethodName := ⟨RX1, "<init>", "()V"⟩
abbrev cX1_start : ByteArray := prog_3_method_2_code
def yX1_start : MethodName := ⟨RX1, "start", "(LRumourPipes$Tower;III)V"⟩
abbrev cX1_copyFrom : ByteArray := prog_3_method_3_code
def yX1_copyFrom : MethodName := ⟨RX1, "copyFrom", "(LRumourPipes$Rumour;)V"⟩
abbrev cX1_bringRumour : ByteArray := prog_3_method_4_code
def yX1_bringRumour : MethodName := ⟨RX1, "bringRumour", "(LRumourPipes$Tower;III)Z"⟩
abbrev cX1_bringDenial : ByteArray := prog_3_method_5_code
def yX1_bringDenial : MethodName := ⟨RX1, "bringDenial", "(LRumourPipes$Tower;II)V"⟩
abbrev cX1_passHour : ByteArray := prog_3_method_6_code
def yX1_passHour : MethodName := ⟨RX1, "passHour", "(LRumourPipes$Tower;I)I"⟩
abbrev cX1_tellRumour : ByteArray := prog_3_method_7_code
def yX1_tellRumour : MethodName := ⟨RX1, "tellRumour", "(LRumourPipes$Tower;II)V"⟩
abbrev cX1_tellDenial : ByteArray := prog_3_method_8_code
def yX1_tellDenial : MethodName := ⟨RX1, "tellDenial", "(LRumourPipes$Tower;II)V"⟩
abbrev cX1_lookAhead : ByteArray := prog_3_method_9_code
def yX1_lookAhead : MethodName := ⟨RX1, "lookAhead", "(LRumourPipes$Tower;I)I"⟩
abbrev cX1_isQuiet : ByteArray := prog_3_method_10_code
def yX1_isQuiet : MethodName := ⟨RX1, "isQuiet", "(I)Z"⟩
abbrev cX1_isUnderWayTo : ByteArray := prog_3_method_11_code
def yX1_isUnderWayTo : MethodName := ⟨RX1, "isUnderWayTo", "(I)Z"⟩
abbrev cX1_headsThatBelieve : ByteArray := prog_3_method_12_code
def yX1_headsThatBelieve : MethodName := ⟨RX1, "headsThatBelieve", "(LRumourPipes$Tower;)I"⟩
def RX2 : String := "RumourPipes$Tower"
def TX2 : u_T := fun k => match k with
  | 0 => ("RumourPipes$Tower", "count", "I", false)
  | 1 => ("RumourPipes$Tower", "liftCount", "I", false)
  | 2 => ("RumourPipes$Tower", "heads", "[I", true)
  | 3 => ("RumourPipes$Tower", "stay", "[I", true)
  | 4 => ("RumourPipes$Tower", "stairs", "[I", true)
  | 5 => ("RumourPipes$Tower", "open", "[Z", true)
  | 6 => ("RumourPipes$Tower", "lifts", "[LRumourPipes$Lift;", true)
  | _ => ("RumourPipes$Tower", "pipes", "[[I", true)
def tyX2 : Nat → FieldType := fun k => match k with
  | 0 => .int
  | 1 => .int
  | 2 => .array .int
  | 3 => .array .int
  | 4 => .array .int
  | 5 => .array .boolean
  | 6 => .array (.object "RumourPipes$Lift")
  | _ => .array (.array .int)
theorem nmX2 : ∀ a, a < 8 → ∀ b, b < 8 → a ≠ b → (TX2 a).2.1 ≠ (TX2 b).2.1 := by decide +kernel
theorem tyX2_ok : ∀ k, k < 8 → parseFieldDescriptor (TX2 k).2.2.1 = some (tyX2 k) := by decide +kernel
abbrev cX2_init : ByteArray := prog_4_method_1_code
def yX2_init : MethodName := ⟨RX2, "<init>", "()V"⟩
abbrev cX2_reset : ByteArray := prog_4_method_2_code
def yX2_reset : MethodName := ⟨RX2, "reset", "(I)V"⟩
abbrev cX2_putLift : ByteArray := prog_4_method_3_code
def yX2_putLift : MethodName := ⟨RX2, "putLift", "(IIII)I"⟩
abbrev cX2_letStairs : ByteArray := prog_4_method_4_code
def yX2_letStairs : MethodName := ⟨RX2, "letStairs", "(IZ)V"⟩
abbrev cX2_letLift : ByteArray := prog_4_method_5_code
def yX2_letLift : MethodName := ⟨RX2, "letLift", "(IZ)V"⟩
abbrev cX2_layPipes : ByteArray := prog_4_method_6_code
def yX2_layPipes : MethodName := ⟨RX2, "layPipes", "()V"⟩
abbrev cX2_fewestHours : ByteArray := prog_4_method_7_code
def yX2_fewestHours : MethodName := ⟨RX2, "fewestHours", "(II)I"⟩
def RX3 : String := "RumourPipes$Ways"
def TX3 : u_T := fun k => match k with
  | 0 => ("RumourPipes$Ways", "hours", "[I", true)
  | 1 => ("RumourPipes$Ways", "pipes", "[I", true)
  | _ => ("RumourPipes$Ways", "settled", "[Z", true)
def tyX3 : Nat → FieldType := fun k => match k with
  | 0 => .array .int
  | 1 => .array .int
  | _ => .array .boolean
theorem nmX3 : ∀ a, a < 3 → ∀ b, b < 3 → a ≠ b → (TX3 a).2.1 ≠ (TX3 b).2.1 := by decide +kernel
theorem tyX3_ok : ∀ k, k < 3 → parseFieldDescriptor (TX3 k).2.2.1 = some (tyX3 k) := by decide +kernel
abbrev cX3_init : ByteArray := prog_5_method_1_code
def yX3_init : MethodName := ⟨RX3, "<init>", "()V"⟩
abbrev cX3_findFrom : ByteArray := prog_5_method_2_code
def yX3_findFrom : MethodName := ⟨RX3, "findFrom", "(LRumourPipes$Tower;I)V"⟩
abbrev cX3_nearest : ByteArray := prog_5_method_3_code
def yX3_nearest : MethodName := ⟨RX3, "nearest", "(I)I"⟩
abbrev cX3_leadOn : ByteArray := prog_5_method_4_code
def yX3_leadOn : MethodName := ⟨RX3, "leadOn", "(LRumourPipes$Tower;I)V"⟩
abbrev cX3_isBetter : ByteArray := prog_5_method_5_code
def yX3_isBetter : MethodName := ⟨RX3, "isBetter", "(III)Z"⟩
abbrev cX3_greatestHours : ByteArray := prog_5_method_6_code
def yX3_greatestHours : MethodName := ⟨RX3, "greatestHours", "(I)I"⟩
abbrev cX3_leadBelow : ByteArray := prog_5_method_7_code
def yX3_leadBelow : MethodName := ⟨RX3, "leadBelow", "(I)Z"⟩
def RX4 : String := "RumourPipes"
def TX4 : u_T := fun k => match k with
  | 0 => ("RumourPipes", "tower", "LRumourPipes$Tower;", true)
  | 1 => ("RumourPipes", "ways", "LRumourPipes$Ways;", true)
  | 2 => ("RumourPipes", "started", "[LRumourPipes$Rumour;", true)
  | 3 => ("RumourPipes", "trial", "LRumourPipes$Rumour;", true)
  | 4 => ("RumourPipes", "rumourCount", "I", false)
  | _ => ("RumourPipes", "hour", "I", false)
def tyX4 : Nat → FieldType := fun k => match k with
  | 0 => .object "RumourPipes$Tower"
  | 1 => .object "RumourPipes$Ways"
  | 2 => .array (.object "RumourPipes$Rumour")
  | 3 => .object "RumourPipes$Rumour"
  | 4 => .int
  | _ => .int
theorem nmX4 : ∀ a, a < 6 → ∀ b, b < 6 → a ≠ b → (TX4 a).2.1 ≠ (TX4 b).2.1 := by decide +kernel
theorem tyX4_ok : ∀ k, k < 6 → parseFieldDescriptor (TX4 k).2.2.1 = some (tyX4 k) := by decide +kernel
abbrev cX4_init : ByteArray := prog_1_method_1_code
def yX4_init : MethodName := ⟨RX4, "<init>", "()V"⟩
abbrev cX4_build : ByteArray := prog_1_method_2_code
def yX4_build : MethodName := ⟨RX4, "build", "(I)I"⟩
abbrev cX4_setStay : ByteArray := prog_1_method_3_code
def yX4_setStay : MethodName := ⟨RX4, "setStay", "(II)I"⟩
abbrev cX4_setHeads : ByteArray := prog_1_method_4_code
def yX4_setHeads : MethodName := ⟨RX4, "setHeads", "(II)I"⟩
abbrev cX4_setStairs : ByteArray := prog_1_method_5_code
def yX4_setStairs : MethodName := ⟨RX4, "setStairs", "(II)I"⟩
abbrev cX4_turnStairs : ByteArray := prog_1_method_6_code
def yX4_turnStairs : MethodName := ⟨RX4, "turnStairs", "(I)Z"⟩
abbrev cX4_addLift : ByteArray := prog_1_method_7_code
def yX4_addLift : MethodName := ⟨RX4, "addLift", "(IIII)I"⟩
abbrev cX4_turnLift : ByteArray := prog_1_method_8_code
def yX4_turnLift : MethodName := ⟨RX4, "turnLift", "(I)Z"⟩
abbrev cX4_startRumour : ByteArray := prog_1_method_9_code
def yX4_startRumour : MethodName := ⟨RX4, "startRumour", "(II)I"⟩
abbrev cX4_startDenial : ByteArray := prog_1_method_10_code
def yX4_startDenial : MethodName := ⟨RX4, "startDenial", "(II)I"⟩
abbrev cX4_passHours : ByteArray := prog_1_method_11_code
def yX4_passHours : MethodName := ⟨RX4, "passHours", "(I)I"⟩
abbrev cX4_floors : ByteArray := prog_1_method_12_code
def yX4_floors : MethodName := ⟨RX4, "floors", "()I"⟩
abbrev cX4_hours : ByteArray := prog_1_method_13_code
def yX4_hours : MethodName := ⟨RX4, "hours", "()I"⟩
abbrev cX4_lifts : ByteArray := prog_1_method_14_code
def yX4_lifts : MethodName := ⟨RX4, "lifts", "()I"⟩
abbrev cX4_rumours : ByteArray := prog_1_method_15_code
def yX4_rumours : MethodName := ⟨RX4, "rumours", "()I"⟩
abbrev cX4_headsOf : ByteArray := prog_1_method_16_code
def yX4_headsOf : MethodName := ⟨RX4, "headsOf", "(I)I"⟩
abbrev cX4_stayOf : ByteArray := prog_1_method_17_code
def yX4_stayOf : MethodName := ⟨RX4, "stayOf", "(I)I"⟩
abbrev cX4_stairsOf : ByteArray := prog_1_method_18_code
def yX4_stairsOf : MethodName := ⟨RX4, "stairsOf", "(I)I"⟩
abbrev cX4_isOpen : ByteArray := prog_1_method_19_code
def yX4_isOpen : MethodName := ⟨RX4, "isOpen", "(I)Z"⟩
abbrev cX4_runs : ByteArray := prog_1_method_20_code
def yX4_runs : MethodName := ⟨RX4, "runs", "(I)Z"⟩
abbrev cX4_pipe : ByteArray := prog_1_method_22_code
def yX4_pipe : MethodName := ⟨RX4, "pipe", "(II)I"⟩
abbrev cX4_neighbours : ByteArray := prog_1_method_23_code
def yX4_neighbours : MethodName := ⟨RX4, "neighbours", "(I)I"⟩
abbrev cX4_originOf : ByteArray := prog_1_method_24_code
def yX4_originOf : MethodName := ⟨RX4, "originOf", "(I)I"⟩
abbrev cX4_reachOf : ByteArray := prog_1_method_25_code
def yX4_reachOf : MethodName := ⟨RX4, "reachOf", "(I)I"⟩
abbrev cX4_stateOf : ByteArray := prog_1_method_26_code
def yX4_stateOf : MethodName := ⟨RX4, "stateOf", "(II)I"⟩
abbrev cX4_heardAt : ByteArray := prog_1_method_27_code
def yX4_heardAt : MethodName := ⟨RX4, "heardAt", "(II)I"⟩
abbrev cX4_deniedAt : ByteArray := prog_1_method_28_code
def yX4_deniedAt : MethodName := ⟨RX4, "deniedAt", "(II)I"⟩
abbrev cX4_pipesTo : ByteArray := prog_1_method_29_code
def yX4_pipesTo : MethodName := ⟨RX4, "pipesTo", "(II)I"⟩
abbrev cX4_believers : ByteArray := prog_1_method_30_code
def yX4_believers : MethodName := ⟨RX4, "believers", "(I)I"⟩
abbrev cX4_reached : ByteArray := prog_1_method_31_code
def yX4_reached : MethodName := ⟨RX4, "reached", "(I)I"⟩
abbrev cX4_underWay : ByteArray := prog_1_method_32_code
def yX4_underWay : MethodName := ⟨RX4, "underWay", "(I)I"⟩
abbrev cX4_quickest : ByteArray := prog_1_method_33_code
def yX4_quickest : MethodName := ⟨RX4, "quickest", "(II)I"⟩
abbrev cX4_pipesBetween : ByteArray := prog_1_method_34_code
def yX4_pipesBetween : MethodName := ⟨RX4, "pipesBetween", "(II)I"⟩
abbrev cX4_farthestFrom : ByteArray := prog_1_method_35_code
def yX4_farthestFrom : MethodName := ⟨RX4, "farthestFrom", "(I)I"⟩
abbrev cX4_centre : ByteArray := prog_1_method_36_code
def yX4_centre : MethodName := ⟨RX4, "centre", "()I"⟩
abbrev cX4_parts : ByteArray := prog_1_method_37_code
def yX4_parts : MethodName := ⟨RX4, "parts", "()I"⟩
abbrev cX4_wouldHear : ByteArray := prog_1_method_39_code
def yX4_wouldHear : MethodName := ⟨RX4, "wouldHear", "(II)I"⟩
abbrev cX4_believersInTheEnd : ByteArray := prog_1_method_40_code
def yX4_believersInTheEnd : MethodName := ⟨RX4, "believersInTheEnd", "(I)I"⟩
abbrev cX4_quietIn : ByteArray := prog_1_method_41_code
def yX4_quietIn : MethodName := ⟨RX4, "quietIn", "(I)I"⟩
abbrev cX4_believersWith : ByteArray := prog_1_method_42_code
def yX4_believersWith : MethodName := ⟨RX4, "believersWith", "(II)I"⟩
abbrev cX4_bestDenial : ByteArray := prog_1_method_43_code
def yX4_bestDenial : MethodName := ⟨RX4, "bestDenial", "(I)I"⟩
abbrev cX4_bestStairsToShut : ByteArray := prog_1_method_44_code
def yX4_bestStairsToShut : MethodName := ⟨RX4, "bestStairsToShut", "(I)I"⟩
abbrev cX4_meanHeads : ByteArray := prog_1_method_45_code
def yX4_meanHeads : MethodName := ⟨RX4, "meanHeads", "()D"⟩
abbrev cX4_digest : ByteArray := prog_1_method_46_code
def yX4_digest : MethodName := ⟨RX4, "digest", "()J"⟩
abbrev cX4_withRumour : ByteArray := prog_1_method_47_code
def yX4_withRumour : MethodName := ⟨RX4, "withRumour", "(JI)J"⟩
abbrev cX4_mixed : ByteArray := prog_1_method_48_code
def yX4_mixed : MethodName := ⟨RX4, "mixed", "(JJ)J"⟩
abbrev cX4_needFloor : ByteArray := prog_1_method_49_code
def yX4_needFloor : MethodName := ⟨RX4, "needFloor", "(I)V"⟩
abbrev cX4_needStairs : ByteArray := prog_1_method_50_code
def yX4_needStairs : MethodName := ⟨RX4, "needStairs", "(I)V"⟩
abbrev cX4_needLift : ByteArray := prog_1_method_51_code
def yX4_needLift : MethodName := ⟨RX4, "needLift", "(I)V"⟩
abbrev cX4_needRumour : ByteArray := prog_1_method_52_code
def yX4_needRumour : MethodName := ⟨RX4, "needRumour", "(I)V"⟩
abbrev cX4_needArgument : ByteArray := prog_1_method_53_code
def yX4_needArgument : MethodName := ⟨RX4, "needArgument", "(III)V"⟩
def RX5 : String := "RumourPipesLaw$Rumour"
def TX5 : u_T := fun k => match k with
  | 0 => ("RumourPipesLaw$Rumour", "origin", "I", false)
  | 1 => ("RumourPipesLaw$Rumour", "reach", "I", false)
  | 2 => ("RumourPipesLaw$Rumour", "state", "[I", false)
  | 3 => ("RumourPipesLaw$Rumour", "heard", "[I", false)
  | 4 => ("RumourPipesLaw$Rumour", "denied", "[I", false)
  | 5 => ("RumourPipesLaw$Rumour", "pipes", "[I", false)
  | 6 => ("RumourPipesLaw$Rumour", "tells", "[I", false)
  | 7 => ("RumourPipesLaw$Rumour", "denies", "[I", false)
  | _ => ("RumourPipesLaw$Rumour", "way", "[[I", false)
def tyX5 : Nat → FieldType := fun k => match k with
  | 0 => .int
  | 1 => .int
  | 2 => .array .int
  | 3 => .array .int
  | 4 => .array .int
  | 5 => .array .int
  | 6 => .array .int
  | 7 => .array .int
  | _ => .array (.array .int)
theorem nmX5 : ∀ a, a < 9 → ∀ b, b < 9 → a ≠ b → (TX5 a).2.1 ≠ (TX5 b).2.1 := by decide +kernel
theorem tyX5_ok : ∀ k, k < 9 → parseFieldDescriptor (TX5 k).2.2.1 = some (tyX5 k) := by decide +kernel
abbrev cX5_init : ByteArray := prog_7_method_1_code
def yX5_init : MethodName := ⟨RX5, "<init>", "(I)V"⟩
abbrev cX5_none : ByteArray := prog_7_method_2_code
def yX5_none : MethodName := ⟨RX5, "none", "(I)[I"⟩
abbrev cX5_send : ByteArray := prog_7_method_4_code
def yX5_send : MethodName := ⟨RX5, "send", "(IIII)V"⟩
abbrev cX5_comes : ByteArray := prog_7_method_5_code
def yX5_comes : MethodName := ⟨RX5, "comes", "(II)Z"⟩
abbrev cX5_take : ByteArray := prog_7_method_6_code
def yX5_take : MethodName := ⟨RX5, "take", "(II)[I"⟩
abbrev cX5_under : ByteArray := prog_7_method_8_code
def yX5_under : MethodName := ⟨RX5, "under", "()I"⟩
abbrev cX5_reached : ByteArray := prog_7_method_9_code
def yX5_reached : MethodName := ⟨RX5, "reached", "()I"⟩
def RX6 : String := "RumourPipesLaw$Sim"
def TX6 : u_T := fun k => match k with
  | 0 => ("RumourPipesLaw$Sim", "hour", "I", false)
  | 1 => ("RumourPipesLaw$Sim", "heads", "[I", false)
  | 2 => ("RumourPipesLaw$Sim", "stay", "[I", false)
  | 3 => ("RumourPipesLaw$Sim", "stairs", "[I", false)
  | 4 => ("RumourPipesLaw$Sim", "open", "[Z", false)
  | 5 => ("RumourPipesLaw$Sim", "lifts", "[[I", false)
  | _ => ("RumourPipesLaw$Sim", "rumours", "[LRumourPipesLaw$Rumour;", false)
def tyX6 : Nat → FieldType := fun k => match k with
  | 0 => .int
  | 1 => .array .int
  | 2 => .array .int
  | 3 => .array .int
  | 4 => .array .boolean
  | 5 => .array (.array .int)
  | _ => .array (.object "RumourPipesLaw$Rumour")
theorem nmX6 : ∀ a, a < 7 → ∀ b, b < 7 → a ≠ b → (TX6 a).2.1 ≠ (TX6 b).2.1 := by decide +kernel
theorem tyX6_ok : ∀ k, k < 7 → parseFieldDescriptor (TX6 k).2.2.1 = some (tyX6 k) := by decide +kernel
abbrev cX6_init : ByteArray := prog_8_method_1_code
def yX6_init : MethodName := ⟨RX6, "<init>", "()V"⟩
abbrev cX6_build : ByteArray := prog_8_method_4_code
def yX6_build : MethodName := ⟨RX6, "build", "(I)V"⟩
abbrev cX6_addLift : ByteArray := prog_8_method_5_code
def yX6_addLift : MethodName := ⟨RX6, "addLift", "([I)V"⟩
abbrev cX6_start : ByteArray := prog_8_method_6_code
def yX6_start : MethodName := ⟨RX6, "start", "(II)V"⟩
abbrev cX6_hear : ByteArray := prog_8_method_7_code
def yX6_hear : MethodName := ⟨RX6, "hear", "(LRumourPipesLaw$Rumour;II)V"⟩
abbrev cX6_deny : ByteArray := prog_8_method_8_code
def yX6_deny : MethodName := ⟨RX6, "deny", "(LRumourPipesLaw$Rumour;I)V"⟩
abbrev cX6_serves : ByteArray := prog_8_method_9_code
def yX6_serves : MethodName := ⟨RX6, "serves", "([II)Z"⟩
abbrev cX6_pipe : ByteArray := prog_8_method_10_code
def yX6_pipe : MethodName := ⟨RX6, "pipe", "(II)I"⟩
abbrev cX6_pass : ByteArray := prog_8_method_12_code
def yX6_pass : MethodName := ⟨RX6, "pass", "()V"⟩
abbrev cX6_pass_ : ByteArray := prog_8_method_13_code
def yX6_pass_ : MethodName := ⟨RX6, "pass", "(I)V"⟩
abbrev cX6_heard : ByteArray := prog_8_method_14_code
def yX6_heard : MethodName := ⟨RX6, "heard", "()I"⟩
abbrev cX6_believers : ByteArray := prog_8_method_15_code
def yX6_believers : MethodName := ⟨RX6, "believers", "(I)I"⟩
abbrev cX6_isSame : ByteArray := prog_8_method_16_code
def yX6_isSame : MethodName := ⟨RX6, "isSame", "(LRumourPipes;)Z"⟩
def RX7 : String := "RumourPipesModel"
def TX7 : u_T := fun k => match k with
  | _ => ("", "", "", false)
def tyX7 : Nat → FieldType := fun k => match k with
  | _ => .int
theorem nmX7 : ∀ a, a < 0 → ∀ b, b < 0 → a ≠ b → (TX7 a).2.1 ≠ (TX7 b).2.1 := by decide +kernel
theorem tyX7_ok : ∀ k, k < 0 → parseFieldDescriptor (TX7 k).2.2.1 = some (tyX7 k) := by decide +kernel
def RJx8e188 : String := "java/lang/Cloneable"
def TJx8e188 : u_T := fun k => match k with
  | _ => ("", "", "", false)
def tyJx8e188 : Nat → FieldType := fun k => match k with
  | _ => .int
theorem nmJx8e188 : ∀ a, a < 0 → ∀ b, b < 0 → a ≠ b → (TJx8e188 a).2.1 ≠ (TJx8e188 b).2.1 := by decide +kernel
theorem tyJx8e188_ok : ∀ k, k < 0 → parseFieldDescriptor (TJx8e188 k).2.2.1 = some (tyJx8e188 k) := by decide +kernel
def RJ9 : String := "java/lang/Math"
def TJ9 : u_T := fun k => match k with
  | _ => ("", "", "", false)
def tyJ9 : Nat → FieldType := fun k => match k with
  | _ => .int
theorem nmJ9 : ∀ a, a < 0 → ∀ b, b < 0 → a ≠ b → (TJ9 a).2.1 ≠ (TJ9 b).2.1 := by decide +kernel
theorem tyJ9_ok : ∀ k, k < 0 → parseFieldDescriptor (TJ9 k).2.2.1 = some (tyJ9 k) := by decide +kernel
abbrev cJ9_max_7cf53 : ByteArray := prog_15_method_65_code
def yJ9_max_7cf53 : MethodName := ⟨RJ9, "max", "(II)I"⟩
abbrev cJ9_min_7cf53 : ByteArray := prog_15_method_69_code
def yJ9_min_7cf53 : MethodName := ⟨RJ9, "min", "(II)I"⟩
def RJ0 : String := "java/lang/String"
def TJ0 : u_T := fun k => match k with
  | _ => ("", "", "", false)
def tyJ0 : Nat → FieldType := fun k => match k with
  | _ => .int
theorem nmJ0 : ∀ a, a < 0 → ∀ b, b < 0 → a ≠ b → (TJ0 a).2.1 ≠ (TJ0 b).2.1 := by decide +kernel
theorem tyJ0_ok : ∀ k, k < 0 → parseFieldDescriptor (TJ0 k).2.2.1 = some (tyJ0 k) := by decide +kernel
def RJ10 : String := "java/lang/System"
def TJ10 : u_T := fun k => match k with
  | _ => ("", "", "", false)
def tyJ10 : Nat → FieldType := fun k => match k with
  | _ => .int
theorem nmJ10 : ∀ a, a < 0 → ∀ b, b < 0 → a ≠ b → (TJ10 a).2.1 ≠ (TJ10 b).2.1 := by decide +kernel
theorem tyJ10_ok : ∀ k, k < 0 → parseFieldDescriptor (TJ10 k).2.2.1 = some (tyJ10 k) := by decide +kernel
def RL : String := "RumourPipesLaw"
abbrev cL_below : ByteArray := method_2_code
def yL_below : MethodName := ⟨RL, "below", "(II)I"⟩
abbrev cL_cell : ByteArray := method_3_code
def yL_cell : MethodName := ⟨RL, "cell", "([II)I"⟩
abbrev cL_act : ByteArray := method_4_code
def yL_act : MethodName := ⟨RL, "act", "(LRumourPipes;LRumourPipesLaw$Sim;I)Z"⟩
abbrev cL_build : ByteArray := method_5_code
def yL_build : MethodName := ⟨RL, "build", "(LRumourPipes;[I)LRumourPipesLaw$Sim;"⟩
abbrev cL_law : ByteArray := code
def yL_law : MethodName := ⟨RL, "law", "([I)Z"⟩
theorem dX0_init_0 : decode cX0_init 0 = .ok (.aload_n 0, 1) := by decide +kernel
theorem dX0_init_1 : decode cX0_init 1 = .ok (.invokespecial 3, 3) := by decide +kernel
theorem dX0_init_4 : decode cX0_init 4 = .ok (.aload_n 0, 1) := by decide +kernel
theorem dX0_init_5 : decode cX0_init 5 = .ok (.iconst 0, 1) := by decide +kernel
theorem dX0_init_6 : decode cX0_init 6 = .ok (.putfield 9, 3) := by decide +kernel
theorem dX0_init_9 : decode cX0_init 9 = .ok (.aload_n 0, 1) := by decide +kernel
theorem dX0_init_10 : decode cX0_init 10 = .ok (.iconst 0, 1) := by decide +kernel
theorem dX0_init_11 : decode cX0_init 11 = .ok (.putfield 15, 3) := by decide +kernel
theorem dX0_init_14 : decode cX0_init 14 = .ok (.aload_n 0, 1) := by decide +kernel
theorem dX0_init_15 : decode cX0_init 15 = .ok (.bipush 12, 2) := by decide +kernel
theorem dX0_init_17 : decode cX0_init 17 = .ok (.newarray .boolean, 2) := by decide +kernel
theorem dX0_init_19 : decode cX0_init 19 = .ok (.putfield 19, 3) := by decide +kernel
theorem dX0_init_22 : decode cX0_init 22 = .ok (.return_, 1) := by decide +kernel
theorem dX0_set_0 : decode cX0_set 0 = .ok (.aload_n 0, 1) := by decide +kernel
theorem dX0_set_1 : decode cX0_set 1 = .ok (.iconst 1, 1) := by decide +kernel
theorem dX0_set_2 : decode cX0_set 2 = .ok (.putfield 9, 3) := by decide +kernel
theorem dX0_set_5 : decode cX0_set 5 = .ok (.aload_n 0, 1) := by decide +kernel
theorem dX0_set_6 : decode cX0_set 6 = .ok (.iload 4, 2) := by decide +kernel
theorem dX0_set_8 : decode cX0_set 8 = .ok (.putfield 15, 3) := by decide +kernel
theorem dX0_set_11 : decode cX0_set 11 = .ok (.iload_n 1, 1) := by decide +kernel
theorem dX0_set_12 : decode cX0_set 12 = .ok (.istore 5, 2) := by decide +kernel
theorem dX0_set_14 : decode cX0_set 14 = .ok (.iconst 0, 1) := by decide +kernel
theorem dX0_set_15 : decode cX0_set 15 = .ok (.istore 6, 2) := by decide +kernel
theorem dX0_set_17 : decode cX0_set 17 = .ok (.iload 6, 2) := by decide +kernel
theorem dX0_set_19 : decode cX0_set 19 = .ok (.bipush 12, 2) := by decide +kernel
theorem dX0_set_21 : decode cX0_set 21 = .ok (.if_icmp .ge 50, 3) := by decide +kernel
theorem dX0_set_24 : decode cX0_set 24 = .ok (.aload_n 0, 1) := by decide +kernel
theorem dX0_set_25 : decode cX0_set 25 = .ok (.getfield 19, 3) := by decide +kernel
theorem dX0_set_28 : decode cX0_set 28 = .ok (.iload 6, 2) := by decide +kernel
theorem dX0_set_30 : decode cX0_set 30 = .ok (.iload 6, 2) := by decide +kernel
theorem dX0_set_32 : decode cX0_set 32 = .ok (.iload 5, 2) := by decide +kernel
theorem dX0_set_34 : decode cX0_set 34 = .ok (.if_icmp .ne 13, 3) := by decide +kernel
theorem dX0_set_37 : decode cX0_set 37 = .ok (.iload 6, 2) := by decide +kernel
theorem dX0_set_39 : decode cX0_set 39 = .ok (.iload_n 2, 1) := by decide +kernel
theorem dX0_set_40 : decode cX0_set 40 = .ok (.if_icmp .gt 7, 3) := by decide +kernel
theorem dX0_set_43 : decode cX0_set 43 = .ok (.iconst 1, 1) := by decide +kernel
theorem dX0_set_44 : decode cX0_set 44 = .ok (.goto 4, 3) := by decide +kernel
theorem dX0_set_47 : decode cX0_set 47 = .ok (.iconst 0, 1) := by decide +kernel
theorem dX0_set_48 : decode cX0_set 48 = .ok (.bastore, 1) := by decide +kernel
theorem dX0_set_49 : decode cX0_set 49 = .ok (.aload_n 0, 1) := by decide +kernel
theorem dX0_set_50 : decode cX0_set 50 = .ok (.getfield 19, 3) := by decide +kernel
theorem dX0_set_53 : decode cX0_set 53 = .ok (.iload 6, 2) := by decide +kernel
theorem dX0_set_55 : decode cX0_set 55 = .ok (.baload, 1) := by decide +kernel
theorem dX0_set_56 : decode cX0_set 56 = .ok (.ifCond .eq 9, 3) := by decide +kernel
theorem dX0_set_59 : decode cX0_set 59 = .ok (.iload 6, 2) := by decide +kernel
theorem dX0_set_61 : decode cX0_set 61 = .ok (.iload_n 3, 1) := by decide +kernel
theorem dX0_set_62 : decode cX0_set 62 = .ok (.iadd, 1) := by decide +kernel
theorem dX0_set_63 : decode cX0_set 63 = .ok (.istore 5, 2) := by decide +kernel
theorem dX0_set_65 : decode cX0_set 65 = .ok (.iinc 6 1, 3) := by decide +kernel
theorem dX0_set_68 : decode cX0_set 68 = .ok (.goto (-51), 3) := by decide +kernel
theorem dX0_set_71 : decode cX0_set 71 = .ok (.return_, 1) := by decide +kernel
theorem dX0_hoursBetween_0 : decode cX0_hoursBetween 0 = .ok (.aload_n 0, 1) := by decide +kernel
theorem dX0_hoursBetween_1 : decode cX0_hoursBetween 1 = .ok (.getfield 9, 3) := by decide +kernel
theorem dX0_hoursBetween_4 : decode cX0_hoursBetween 4 = .ok (.ifCond .eq 25, 3) := by decide +kernel
theorem dX0_hoursBetween_7 : decode cX0_hoursBetween 7 = .ok (.aload_n 0, 1) := by decide +kernel
theorem dX0_hoursBetween_8 : decode cX0_hoursBetween 8 = .ok (.getfield 19, 3) := by decide +kernel
theorem dX0_hoursBetween_11 : decode cX0_hoursBetween 11 = .ok (.iload_n 1, 1) := by decide +kernel
theorem dX0_hoursBetween_12 : decode cX0_hoursBetween 12 = .ok (.baload, 1) := by decide +kernel
theorem dX0_hoursBetween_13 : decode cX0_hoursBetween 13 = .ok (.ifCond .eq 16, 3) := by decide +kernel
theorem dX0_hoursBetween_16 : decode cX0_hoursBetween 16 = .ok (.aload_n 0, 1) := by decide +kernel
theorem dX0_hoursBetween_17 : decode cX0_hoursBetween 17 = .ok (.getfield 19, 3) := by decide +kernel
theorem dX0_hoursBetween_20 : decode cX0_hoursBetween 20 = .ok (.iload_n 2, 1) := by decide +kernel
theorem dX0_hoursBetween_21 : decode cX0_hoursBetween 21 = .ok (.baload, 1) := by decide +kernel
theorem dX0_hoursBetween_22 : decode cX0_hoursBetween 22 = .ok (.ifCond .eq 7, 3) := by decide +kernel
theorem dX0_hoursBetween_25 : decode cX0_hoursBetween 25 = .ok (.iconst 1, 1) := by decide +kernel
theorem dX0_hoursBetween_26 : decode cX0_hoursBetween 26 = .ok (.goto 4, 3) := by decide +kernel
theorem dX0_hoursBetween_29 : decode cX0_hoursBetween 29 = .ok (.iconst 0, 1) := by decide +kernel
theorem dX0_hoursBetween_30 : decode cX0_hoursBetween 30 = .ok (.istore_n 3, 1) := by decide +kernel
theorem dX0_hoursBetween_31 : decode cX0_hoursBetween 31 = .ok (.iload_n 3, 1) := by decide +kernel
theorem dX0_hoursBetween_32 : decode cX0_hoursBetween 32 = .ok (.ifCond .eq 16, 3) := by decide +kernel
theorem dX0_hoursBetween_35 : decode cX0_hoursBetween 35 = .ok (.aload_n 0, 1) := by decide +kernel
theorem dX0_hoursBetween_36 : decode cX0_hoursBetween 36 = .ok (.getfield 15, 3) := by decide +kernel
theorem dX0_hoursBetween_39 : decode cX0_hoursBetween 39 = .ok (.iload_n 2, 1) := by decide +kernel
theorem dX0_hoursBetween_40 : decode cX0_hoursBetween 40 = .ok (.iload_n 1, 1) := by decide +kernel
theorem dX0_hoursBetween_41 : decode cX0_hoursBetween 41 = .ok (.isub, 1) := by decide +kernel
theorem dX0_hoursBetween_42 : decode cX0_hoursBetween 42 = .ok (.iconst 2, 1) := by decide +kernel
theorem dX0_hoursBetween_43 : decode cX0_hoursBetween 43 = .ok (.idiv, 1) := by decide +kernel
theorem dX0_hoursBetween_44 : decode cX0_hoursBetween 44 = .ok (.iadd, 1) := by decide +kernel
theorem dX0_hoursBetween_45 : decode cX0_hoursBetween 45 = .ok (.goto 4, 3) := by decide +kernel
theorem dX0_hoursBetween_48 : decode cX0_hoursBetween 48 = .ok (.iconst (-1), 1) := by decide +kernel
theorem dX0_hoursBetween_49 : decode cX0_hoursBetween 49 = .ok (.ireturn, 1) := by decide +kernel
theorem dX1_init_0 : decode cX1_init 0 = .ok (.aload_n 0, 1) := by decide +kernel
theorem dX1_init_1 : decode cX1_init 1 = .ok (.invokespecial 3, 3) := by decide +kernel
theorem dX1_init_4 : decode cX1_init 4 = .ok (.aload_n 0, 1) := by decide +kernel
theorem dX1_init_5 : decode cX1_init 5 = .ok (.iconst 0, 1) := by decide +kernel
theorem dX1_init_6 : decode cX1_init 6 = .ok (.putfield 9, 3) := by decide +kernel
theorem dX1_init_9 : decode cX1_init 9 = .ok (.aload_n 0, 1) := by decide +kernel
theorem dX1_init_10 : decode cX1_init 10 = .ok (.iconst 0, 1) := by decide +kernel
theorem dX1_init_11 : decode cX1_init 11 = .ok (.putfield 15, 3) := by decide +kernel
theorem dX1_init_14 : decode cX1_init 14 = .ok (.aload_n 0, 1) := by decide +kernel
theorem dX1_init_15 : decode cX1_init 15 = .ok (.bipush 12, 2) := by decide +kernel
theorem dX1_init_17 : decode cX1_init 17 = .ok (.newarray .int, 2) := by decide +kernel
theorem dX1_init_19 : decode cX1_init 19 = .ok (.putfield 18, 3) := by decide +kernel
theorem dX1_init_22 : decode cX1_init 22 = .ok (.aload_n 0, 1) := by decide +kernel
theorem dX1_init_23 : decode cX1_init 23 = .ok (.bipush 12, 2) := by decide +kernel
theorem dX1_init_25 : decode cX1_init 25 = .ok (.newarray .int, 2) := by decide +kernel
theorem dX1_init_27 : decode cX1_init 27 = .ok (.putfield 22, 3) := by decide +kernel
theorem dX1_init_30 : decode cX1_init 30 = .ok (.aload_n 0, 1) := by decide +kernel
theorem dX1_init_31 : decode cX1_init 31 = .ok (.bipush 12, 2) := by decide +kernel
theorem dX1_init_33 : decode cX1_init 33 = .ok (.newarray .int, 2) := by decide +kernel
theorem dX1_init_35 : decode cX1_init 35 = .ok (.putfield 25, 3) := by decide +kernel
theorem dX1_init_38 : decode cX1_init 38 = .ok (.aload_n 0, 1) := by decide +kernel
theorem dX1_init_39 : decode cX1_init 39 = .ok (.bipush 12, 2) := by decide +kernel
theorem dX1_init_41 : decode cX1_init 41 = .ok (.newarray .int, 2) := by decide +kernel
theorem dX1_init_43 : decode cX1_init 43 = .ok (.putfield 28, 3) := by decide +kernel
theorem dX1_init_46 : decode cX1_init 46 = .ok (.aload_n 0, 1) := by decide +kernel
theorem dX1_init_47 : decode cX1_init 47 = .ok (.bipush 12, 2) := by decide +kernel
theorem dX1_init_49 : decode cX1_init 49 = .ok (.newarray .int, 2) := by decide +kernel
theorem dX1_init_51 : decode cX1_init 51 = .ok (.putfield 31, 3) := by decide +kernel
theorem dX1_init_54 : decode cX1_init 54 = .ok (.aload_n 0, 1) := by decide +kernel
theorem dX1_init_55 : decode cX1_init 55 = .ok (.bipush 12, 2) := by decide +kernel
theorem dX1_init_57 : decode cX1_init 57 = .ok (.newarray .int, 2) := by decide +kernel
theorem dX1_init_59 : decode cX1_init 59 = .ok (.putfield 34, 3) := by decide +kernel
theorem dX1_init_62 : decode cX1_init 62 = .ok (.aload_n 0, 1) := by decide +kernel
theorem dX1_init_63 : decode cX1_init 63 = .ok (.bipush 12, 2) := by decide +kernel
theorem dX1_init_65 : decode cX1_init 65 = .ok (.newarray .int, 2) := by decide +kernel
theorem dX1_init_67 : decode cX1_init 67 = .ok (.putfield 37, 3) := by decide +kernel
theorem dX1_init_70 : decode cX1_init 70 = .ok (.aload_n 0, 1) := by decide +kernel
theorem dX1_init_71 : decode cX1_init 71 = .ok (.bipush 12, 2) := by decide +kernel
theorem dX1_init_73 : decode cX1_init 73 = .ok (.newarray .int, 2) := by decide +kernel
theorem dX1_init_75 : decode cX1_init 75 = .ok (.putfield 40, 3) := by decide +kernel
theorem dX1_init_78 : decode cX1_init 78 = .ok (.aload_n 0, 1) := by decide +kernel
theorem dX1_init_79 : decode cX1_init 79 = .ok (.bipush 12, 2) := by decide +kernel
theorem dX1_init_81 : decode cX1_init 81 = .ok (.newarray .int, 2) := by decide +kernel
theorem dX1_init_83 : decode cX1_init 83 = .ok (.putfield 43, 3) := by decide +kernel
theorem dX1_init_86 : decode cX1_init 86 = .ok (.return_, 1) := by decide +kernel
theorem dX1_start_0 : decode cX1_start 0 = .ok (.aload_n 0, 1) := by decide +kernel
theorem dX1_start_1 : decode cX1_start 1 = .ok (.iload_n 2, 1) := by decide +kernel
theorem dX1_start_2 : decode cX1_start 2 = .ok (.putfield 9, 3) := by decide +kernel
theorem dX1_start_5 : decode cX1_start 5 = .ok (.aload_n 0, 1) := by decide +kernel
theorem dX1_start_6 : decode cX1_start 6 = .ok (.iload_n 3, 1) := by decide +kernel
theorem dX1_start_7 : decode cX1_start 7 = .ok (.putfield 15, 3) := by decide +kernel
theorem dX1_start_10 : decode cX1_start 10 = .ok (.iconst 0, 1) := by decide +kernel
theorem dX1_start_11 : decode cX1_start 11 = .ok (.istore 5, 2) := by decide +kernel
theorem dX1_start_13 : decode cX1_start 13 = .ok (.iload 5, 2) := by decide +kernel
theorem dX1_start_15 : decode cX1_start 15 = .ok (.bipush 12, 2) := by decide +kernel
theorem dX1_start_17 : decode cX1_start 17 = .ok (.if_icmp .ge 81, 3) := by decide +kernel
theorem dX1_start_20 : decode cX1_start 20 = .ok (.aload_n 0, 1) := by decide +kernel
theorem dX1_start_21 : decode cX1_start 21 = .ok (.getfield 18, 3) := by decide +kernel
theorem dX1_start_24 : decode cX1_start 24 = .ok (.iload 5, 2) := by decide +kernel
theorem dX1_start_26 : decode cX1_start 26 = .ok (.iconst 0, 1) := by decide +kernel
theorem dX1_start_27 : decode cX1_start 27 = .ok (.iastore, 1) := by decide +kernel
theorem dX1_start_28 : decode cX1_start 28 = .ok (.aload_n 0, 1) := by decide +kernel
theorem dX1_start_29 : decode cX1_start 29 = .ok (.getfield 22, 3) := by decide +kernel
theorem dX1_start_32 : decode cX1_start 32 = .ok (.iload 5, 2) := by decide +kernel
theorem dX1_start_34 : decode cX1_start 34 = .ok (.iconst (-1), 1) := by decide +kernel
theorem dX1_start_35 : decode cX1_start 35 = .ok (.iastore, 1) := by decide +kernel
theorem dX1_start_36 : decode cX1_start 36 = .ok (.aload_n 0, 1) := by decide +kernel
theorem dX1_start_37 : decode cX1_start 37 = .ok (.getfield 25, 3) := by decide +kernel
theorem dX1_start_40 : decode cX1_start 40 = .ok (.iload 5, 2) := by decide +kernel
theorem dX1_start_42 : decode cX1_start 42 = .ok (.iconst (-1), 1) := by decide +kernel
theorem dX1_start_43 : decode cX1_start 43 = .ok (.iastore, 1) := by decide +kernel
theorem dX1_start_44 : decode cX1_start 44 = .ok (.aload_n 0, 1) := by decide +kernel
theorem dX1_start_45 : decode cX1_start 45 = .ok (.getfield 28, 3) := by decide +kernel
theorem dX1_start_48 : decode cX1_start 48 = .ok (.iload 5, 2) := by decide +kernel
theorem dX1_start_50 : decode cX1_start 50 = .ok (.iconst (-1), 1) := by decide +kernel
theorem dX1_start_51 : decode cX1_start 51 = .ok (.iastore, 1) := by decide +kernel
theorem dX1_start_52 : decode cX1_start 52 = .ok (.aload_n 0, 1) := by decide +kernel
theorem dX1_start_53 : decode cX1_start 53 = .ok (.getfield 31, 3) := by decide +kernel
theorem dX1_start_56 : decode cX1_start 56 = .ok (.iload 5, 2) := by decide +kernel
theorem dX1_start_58 : decode cX1_start 58 = .ok (.iconst (-1), 1) := by decide +kernel
theorem dX1_start_59 : decode cX1_start 59 = .ok (.iastore, 1) := by decide +kernel
theorem dX1_start_60 : decode cX1_start 60 = .ok (.aload_n 0, 1) := by decide +kernel
theorem dX1_start_61 : decode cX1_start 61 = .ok (.getfield 34, 3) := by decide +kernel
theorem dX1_start_64 : decode cX1_start 64 = .ok (.iload 5, 2) := by decide +kernel
theorem dX1_start_66 : decode cX1_start 66 = .ok (.iconst (-1), 1) := by decide +kernel
theorem dX1_start_67 : decode cX1_start 67 = .ok (.iastore, 1) := by decide +kernel
theorem dX1_start_68 : decode cX1_start 68 = .ok (.aload_n 0, 1) := by decide +kernel
theorem dX1_start_69 : decode cX1_start 69 = .ok (.getfield 37, 3) := by decide +kernel
theorem dX1_start_72 : decode cX1_start 72 = .ok (.iload 5, 2) := by decide +kernel
theorem dX1_start_74 : decode cX1_start 74 = .ok (.iconst (-1), 1) := by decide +kernel
theorem dX1_start_75 : decode cX1_start 75 = .ok (.iastore, 1) := by decide +kernel
theorem dX1_start_76 : decode cX1_start 76 = .ok (.aload_n 0, 1) := by decide +kernel
theorem dX1_start_77 : decode cX1_start 77 = .ok (.getfield 40, 3) := by decide +kernel
theorem dX1_start_80 : decode cX1_start 80 = .ok (.iload 5, 2) := by decide +kernel
theorem dX1_start_82 : decode cX1_start 82 = .ok (.iconst (-1), 1) := by decide +kernel
theorem dX1_start_83 : decode cX1_start 83 = .ok (.iastore, 1) := by decide +kernel
theorem dX1_start_84 : decode cX1_start 84 = .ok (.aload_n 0, 1) := by decide +kernel
theorem dX1_start_85 : decode cX1_start 85 = .ok (.getfield 43, 3) := by decide +kernel
theorem dX1_start_88 : decode cX1_start 88 = .ok (.iload 5, 2) := by decide +kernel
theorem dX1_start_90 : decode cX1_start 90 = .ok (.iconst (-1), 1) := by decide +kernel
theorem dX1_start_91 : decode cX1_start 91 = .ok (.iastore, 1) := by decide +kernel
theorem dX1_start_92 : decode cX1_start 92 = .ok (.iinc 5 1, 3) := by decide +kernel
theorem dX1_start_95 : decode cX1_start 95 = .ok (.goto (-82), 3) := by decide +kernel
theorem dX1_start_98 : decode cX1_start 98 = .ok (.aload_n 0, 1) := by decide +kernel
theorem dX1_start_99 : decode cX1_start 99 = .ok (.aload_n 1, 1) := by decide +kernel
theorem dX1_start_100 : decode cX1_start 100 = .ok (.iload_n 2, 1) := by decide +kernel
theorem dX1_start_101 : decode cX1_start 101 = .ok (.iconst 0, 1) := by decide +kernel
theorem dX1_start_102 : decode cX1_start 102 = .ok (.iload 4, 2) := by decide +kernel
theorem dX1_start_104 : decode cX1_start 104 = .ok (.invokevirtual 46, 3) := by decide +kernel
theorem dX1_start_107 : decode cX1_start 107 = .ok (.pop, 1) := by decide +kernel
theorem dX1_start_108 : decode cX1_start 108 = .ok (.return_, 1) := by decide +kernel
theorem dX1_copyFrom_0 : decode cX1_copyFrom 0 = .ok (.aload_n 0, 1) := by decide +kernel
theorem dX1_copyFrom_1 : decode cX1_copyFrom 1 = .ok (.aload_n 1, 1) := by decide +kernel
theorem dX1_copyFrom_2 : decode cX1_copyFrom 2 = .ok (.getfield 9, 3) := by decide +kernel
theorem dX1_copyFrom_5 : decode cX1_copyFrom 5 = .ok (.putfield 9, 3) := by decide +kernel
theorem dX1_copyFrom_8 : decode cX1_copyFrom 8 = .ok (.aload_n 0, 1) := by decide +kernel
theorem dX1_copyFrom_9 : decode cX1_copyFrom 9 = .ok (.aload_n 1, 1) := by decide +kernel
theorem dX1_copyFrom_10 : decode cX1_copyFrom 10 = .ok (.getfield 15, 3) := by decide +kernel
theorem dX1_copyFrom_13 : decode cX1_copyFrom 13 = .ok (.putfield 15, 3) := by decide +kernel
theorem dX1_copyFrom_16 : decode cX1_copyFrom 16 = .ok (.aload_n 1, 1) := by decide +kernel
theorem dX1_copyFrom_17 : decode cX1_copyFrom 17 = .ok (.getfield 18, 3) := by decide +kernel
theorem dX1_copyFrom_20 : decode cX1_copyFrom 20 = .ok (.iconst 0, 1) := by decide +kernel
theorem dX1_copyFrom_21 : decode cX1_copyFrom 21 = .ok (.aload_n 0, 1) := by decide +kernel
theorem dX1_copyFrom_22 : decode cX1_copyFrom 22 = .ok (.getfield 18, 3) := by decide +kernel
theorem dX1_copyFrom_25 : decode cX1_copyFrom 25 = .ok (.iconst 0, 1) := by decide +kernel
theorem dX1_copyFrom_26 : decode cX1_copyFrom 26 = .ok (.bipush 12, 2) := by decide +kernel
theorem dX1_copyFrom_28 : decode cX1_copyFrom 28 = .ok (.invokestatic 50, 3) := by decide +kernel
theorem dX1_copyFrom_31 : decode cX1_copyFrom 31 = .ok (.aload_n 1, 1) := by decide +kernel
theorem dX1_copyFrom_32 : decode cX1_copyFrom 32 = .ok (.getfield 22, 3) := by decide +kernel
theorem dX1_copyFrom_35 : decode cX1_copyFrom 35 = .ok (.iconst 0, 1) := by decide +kernel
theorem dX1_copyFrom_36 : decode cX1_copyFrom 36 = .ok (.aload_n 0, 1) := by decide +kernel
theorem dX1_copyFrom_37 : decode cX1_copyFrom 37 = .ok (.getfield 22, 3) := by decide +kernel
theorem dX1_copyFrom_40 : decode cX1_copyFrom 40 = .ok (.iconst 0, 1) := by decide +kernel
theorem dX1_copyFrom_41 : decode cX1_copyFrom 41 = .ok (.bipush 12, 2) := by decide +kernel
theorem dX1_copyFrom_43 : decode cX1_copyFrom 43 = .ok (.invokestatic 50, 3) := by decide +kernel
theorem dX1_copyFrom_46 : decode cX1_copyFrom 46 = .ok (.aload_n 1, 1) := by decide +kernel
theorem dX1_copyFrom_47 : decode cX1_copyFrom 47 = .ok (.getfield 25, 3) := by decide +kernel
theorem dX1_copyFrom_50 : decode cX1_copyFrom 50 = .ok (.iconst 0, 1) := by decide +kernel
theorem dX1_copyFrom_51 : decode cX1_copyFrom 51 = .ok (.aload_n 0, 1) := by decide +kernel
theorem dX1_copyFrom_52 : decode cX1_copyFrom 52 = .ok (.getfield 25, 3) := by decide +kernel
theorem dX1_copyFrom_55 : decode cX1_copyFrom 55 = .ok (.iconst 0, 1) := by decide +kernel
theorem dX1_copyFrom_56 : decode cX1_copyFrom 56 = .ok (.bipush 12, 2) := by decide +kernel
theorem dX1_copyFrom_58 : decode cX1_copyFrom 58 = .ok (.invokestatic 50, 3) := by decide +kernel
theorem dX1_copyFrom_61 : decode cX1_copyFrom 61 = .ok (.aload_n 1, 1) := by decide +kernel
theorem dX1_copyFrom_62 : decode cX1_copyFrom 62 = .ok (.getfield 28, 3) := by decide +kernel
theorem dX1_copyFrom_65 : decode cX1_copyFrom 65 = .ok (.iconst 0, 1) := by decide +kernel
theorem dX1_copyFrom_66 : decode cX1_copyFrom 66 = .ok (.aload_n 0, 1) := by decide +kernel
theorem dX1_copyFrom_67 : decode cX1_copyFrom 67 = .ok (.getfield 28, 3) := by decide +kernel
theorem dX1_copyFrom_70 : decode cX1_copyFrom 70 = .ok (.iconst 0, 1) := by decide +kernel
theorem dX1_copyFrom_71 : decode cX1_copyFrom 71 = .ok (.bipush 12, 2) := by decide +kernel
theorem dX1_copyFrom_73 : decode cX1_copyFrom 73 = .ok (.invokestatic 50, 3) := by decide +kernel
theorem dX1_copyFrom_76 : decode cX1_copyFrom 76 = .ok (.aload_n 1, 1) := by decide +kernel
theorem dX1_copyFrom_77 : decode cX1_copyFrom 77 = .ok (.getfield 31, 3) := by decide +kernel
theorem dX1_copyFrom_80 : decode cX1_copyFrom 80 = .ok (.iconst 0, 1) := by decide +kernel
theorem dX1_copyFrom_81 : decode cX1_copyFrom 81 = .ok (.aload_n 0, 1) := by decide +kernel
theorem dX1_copyFrom_82 : decode cX1_copyFrom 82 = .ok (.getfield 31, 3) := by decide +kernel
theorem dX1_copyFrom_85 : decode cX1_copyFrom 85 = .ok (.iconst 0, 1) := by decide +kernel
theorem dX1_copyFrom_86 : decode cX1_copyFrom 86 = .ok (.bipush 12, 2) := by decide +kernel
theorem dX1_copyFrom_88 : decode cX1_copyFrom 88 = .ok (.invokestatic 50, 3) := by decide +kernel
theorem dX1_copyFrom_91 : decode cX1_copyFrom 91 = .ok (.aload_n 1, 1) := by decide +kernel
theorem dX1_copyFrom_92 : decode cX1_copyFrom 92 = .ok (.getfield 34, 3) := by decide +kernel
theorem dX1_copyFrom_95 : decode cX1_copyFrom 95 = .ok (.iconst 0, 1) := by decide +kernel
theorem dX1_copyFrom_96 : decode cX1_copyFrom 96 = .ok (.aload_n 0, 1) := by decide +kernel
theorem dX1_copyFrom_97 : decode cX1_copyFrom 97 = .ok (.getfield 34, 3) := by decide +kernel
theorem dX1_copyFrom_100 : decode cX1_copyFrom 100 = .ok (.iconst 0, 1) := by decide +kernel
theorem dX1_copyFrom_101 : decode cX1_copyFrom 101 = .ok (.bipush 12, 2) := by decide +kernel
theorem dX1_copyFrom_103 : decode cX1_copyFrom 103 = .ok (.invokestatic 50, 3) := by decide +kernel
theorem dX1_copyFrom_106 : decode cX1_copyFrom 106 = .ok (.aload_n 1, 1) := by decide +kernel
theorem dX1_copyFrom_107 : decode cX1_copyFrom 107 = .ok (.getfield 37, 3) := by decide +kernel
theorem dX1_copyFrom_110 : decode cX1_copyFrom 110 = .ok (.iconst 0, 1) := by decide +kernel
theorem dX1_copyFrom_111 : decode cX1_copyFrom 111 = .ok (.aload_n 0, 1) := by decide +kernel
theorem dX1_copyFrom_112 : decode cX1_copyFrom 112 = .ok (.getfield 37, 3) := by decide +kernel
theorem dX1_copyFrom_115 : decode cX1_copyFrom 115 = .ok (.iconst 0, 1) := by decide +kernel
theorem dX1_copyFrom_116 : decode cX1_copyFrom 116 = .ok (.bipush 12, 2) := by decide +kernel
theorem dX1_copyFrom_118 : decode cX1_copyFrom 118 = .ok (.invokestatic 50, 3) := by decide +kernel
theorem dX1_copyFrom_121 : decode cX1_copyFrom 121 = .ok (.aload_n 1, 1) := by decide +kernel
theorem dX1_copyFrom_122 : decode cX1_copyFrom 122 = .ok (.getfield 40, 3) := by decide +kernel
theorem dX1_copyFrom_125 : decode cX1_copyFrom 125 = .ok (.iconst 0, 1) := by decide +kernel
theorem dX1_copyFrom_126 : decode cX1_copyFrom 126 = .ok (.aload_n 0, 1) := by decide +kernel
theorem dX1_copyFrom_127 : decode cX1_copyFrom 127 = .ok (.getfield 40, 3) := by decide +kernel
theorem dX1_copyFrom_130 : decode cX1_copyFrom 130 = .ok (.iconst 0, 1) := by decide +kernel
theorem dX1_copyFrom_131 : decode cX1_copyFrom 131 = .ok (.bipush 12, 2) := by decide +kernel
theorem dX1_copyFrom_133 : decode cX1_copyFrom 133 = .ok (.invokestatic 50, 3) := by decide +kernel
theorem dX1_copyFrom_136 : decode cX1_copyFrom 136 = .ok (.aload_n 1, 1) := by decide +kernel
theorem dX1_copyFrom_137 : decode cX1_copyFrom 137 = .ok (.getfield 43, 3) := by decide +kernel
theorem dX1_copyFrom_140 : decode cX1_copyFrom 140 = .ok (.iconst 0, 1) := by decide +kernel
theorem dX1_copyFrom_141 : decode cX1_copyFrom 141 = .ok (.aload_n 0, 1) := by decide +kernel
theorem dX1_copyFrom_142 : decode cX1_copyFrom 142 = .ok (.getfield 43, 3) := by decide +kernel
theorem dX1_copyFrom_145 : decode cX1_copyFrom 145 = .ok (.iconst 0, 1) := by decide +kernel
theorem dX1_copyFrom_146 : decode cX1_copyFrom 146 = .ok (.bipush 12, 2) := by decide +kernel
theorem dX1_copyFrom_148 : decode cX1_copyFrom 148 = .ok (.invokestatic 50, 3) := by decide +kernel
theorem dX1_copyFrom_151 : decode cX1_copyFrom 151 = .ok (.return_, 1) := by decide +kernel
theorem dX1_bringRumour_0 : decode cX1_bringRumour 0 = .ok (.aload_n 0, 1) := by decide +kernel
theorem dX1_bringRumour_1 : decode cX1_bringRumour 1 = .ok (.getfield 18, 3) := by decide +kernel
theorem dX1_bringRumour_4 : decode cX1_bringRumour 4 = .ok (.iload_n 2, 1) := by decide +kernel
theorem dX1_bringRumour_5 : decode cX1_bringRumour 5 = .ok (.iaload, 1) := by decide +kernel
theorem dX1_bringRumour_6 : decode cX1_bringRumour 6 = .ok (.ifCond .eq 5, 3) := by decide +kernel
theorem dX1_bringRumour_9 : decode cX1_bringRumour 9 = .ok (.iconst 0, 1) := by decide +kernel
theorem dX1_bringRumour_10 : decode cX1_bringRumour 10 = .ok (.ireturn, 1) := by decide +kernel
theorem dX1_bringRumour_11 : decode cX1_bringRumour 11 = .ok (.aload_n 0, 1) := by decide +kernel
theorem dX1_bringRumour_12 : decode cX1_bringRumour 12 = .ok (.getfield 18, 3) := by decide +kernel
theorem dX1_bringRumour_15 : decode cX1_bringRumour 15 = .ok (.iload_n 2, 1) := by decide +kernel
theorem dX1_bringRumour_16 : decode cX1_bringRumour 16 = .ok (.iconst 1, 1) := by decide +kernel
theorem dX1_bringRumour_17 : decode cX1_bringRumour 17 = .ok (.iastore, 1) := by decide +kernel
theorem dX1_bringRumour_18 : decode cX1_bringRumour 18 = .ok (.aload_n 0, 1) := by decide +kernel
theorem dX1_bringRumour_19 : decode cX1_bringRumour 19 = .ok (.getfield 22, 3) := by decide +kernel
theorem dX1_bringRumour_22 : decode cX1_bringRumour 22 = .ok (.iload_n 2, 1) := by decide +kernel
theorem dX1_bringRumour_23 : decode cX1_bringRumour 23 = .ok (.iload 4, 2) := by decide +kernel
theorem dX1_bringRumour_25 : decode cX1_bringRumour 25 = .ok (.iastore, 1) := by decide +kernel
theorem dX1_bringRumour_26 : decode cX1_bringRumour 26 = .ok (.aload_n 0, 1) := by decide +kernel
theorem dX1_bringRumour_27 : decode cX1_bringRumour 27 = .ok (.getfield 28, 3) := by decide +kernel
theorem dX1_bringRumour_30 : decode cX1_bringRumour 30 = .ok (.iload_n 2, 1) := by decide +kernel
theorem dX1_bringRumour_31 : decode cX1_bringRumour 31 = .ok (.iload_n 3, 1) := by decide +kernel
theorem dX1_bringRumour_32 : decode cX1_bringRumour 32 = .ok (.iastore, 1) := by decide +kernel
theorem dX1_bringRumour_33 : decode cX1_bringRumour 33 = .ok (.aload_n 0, 1) := by decide +kernel
theorem dX1_bringRumour_34 : decode cX1_bringRumour 34 = .ok (.getfield 31, 3) := by decide +kernel
theorem dX1_bringRumour_37 : decode cX1_bringRumour 37 = .ok (.iload_n 2, 1) := by decide +kernel
theorem dX1_bringRumour_38 : decode cX1_bringRumour 38 = .ok (.iload 4, 2) := by decide +kernel
theorem dX1_bringRumour_40 : decode cX1_bringRumour 40 = .ok (.aload_n 1, 1) := by decide +kernel
theorem dX1_bringRumour_41 : decode cX1_bringRumour 41 = .ok (.getfield 56, 3) := by decide +kernel
theorem dX1_bringRumour_44 : decode cX1_bringRumour 44 = .ok (.iload_n 2, 1) := by decide +kernel
theorem dX1_bringRumour_45 : decode cX1_bringRumour 45 = .ok (.iaload, 1) := by decide +kernel
theorem dX1_bringRumour_46 : decode cX1_bringRumour 46 = .ok (.iadd, 1) := by decide +kernel
theorem dX1_bringRumour_47 : decode cX1_bringRumour 47 = .ok (.iastore, 1) := by decide +kernel
theorem dX1_bringRumour_48 : decode cX1_bringRumour 48 = .ok (.iconst 1, 1) := by decide +kernel
theorem dX1_bringRumour_49 : decode cX1_bringRumour 49 = .ok (.ireturn, 1) := by decide +kernel
theorem dX1_bringDenial_0 : decode cX1_bringDenial 0 = .ok (.aload_n 0, 1) := by decide +kernel
theorem dX1_bringDenial_1 : decode cX1_bringDenial 1 = .ok (.getfield 18, 3) := by decide +kernel
theorem dX1_bringDenial_4 : decode cX1_bringDenial 4 = .ok (.iload_n 2, 1) := by decide +kernel
theorem dX1_bringDenial_5 : decode cX1_bringDenial 5 = .ok (.iaload, 1) := by decide +kernel
theorem dX1_bringDenial_6 : decode cX1_bringDenial 6 = .ok (.iconst 2, 1) := by decide +kernel
theorem dX1_bringDenial_7 : decode cX1_bringDenial 7 = .ok (.if_icmp .ne 4, 3) := by decide +kernel
theorem dX1_bringDenial_10 : decode cX1_bringDenial 10 = .ok (.return_, 1) := by decide +kernel
theorem dX1_bringDenial_11 : decode cX1_bringDenial 11 = .ok (.aload_n 0, 1) := by decide +kernel
theorem dX1_bringDenial_12 : decode cX1_bringDenial 12 = .ok (.getfield 18, 3) := by decide +kernel
theorem dX1_bringDenial_15 : decode cX1_bringDenial 15 = .ok (.iload_n 2, 1) := by decide +kernel
theorem dX1_bringDenial_16 : decode cX1_bringDenial 16 = .ok (.iconst 2, 1) := by decide +kernel
theorem dX1_bringDenial_17 : decode cX1_bringDenial 17 = .ok (.iastore, 1) := by decide +kernel
theorem dX1_bringDenial_18 : decode cX1_bringDenial 18 = .ok (.aload_n 0, 1) := by decide +kernel
theorem dX1_bringDenial_19 : decode cX1_bringDenial 19 = .ok (.getfield 25, 3) := by decide +kernel
theorem dX1_bringDenial_22 : decode cX1_bringDenial 22 = .ok (.iload_n 2, 1) := by decide +kernel
theorem dX1_bringDenial_23 : decode cX1_bringDenial 23 = .ok (.iload_n 3, 1) := by decide +kernel
theorem dX1_bringDenial_24 : decode cX1_bringDenial 24 = .ok (.iastore, 1) := by decide +kernel
theorem dX1_bringDenial_25 : decode cX1_bringDenial 25 = .ok (.aload_n 0, 1) := by decide +kernel
theorem dX1_bringDenial_26 : decode cX1_bringDenial 26 = .ok (.getfield 34, 3) := by decide +kernel
theorem dX1_bringDenial_29 : decode cX1_bringDenial 29 = .ok (.iload_n 2, 1) := by decide +kernel
theorem dX1_bringDenial_30 : decode cX1_bringDenial 30 = .ok (.iload_n 3, 1) := by decide +kernel
theorem dX1_bringDenial_31 : decode cX1_bringDenial 31 = .ok (.aload_n 1, 1) := by decide +kernel
theorem dX1_bringDenial_32 : decode cX1_bringDenial 32 = .ok (.getfield 56, 3) := by decide +kernel
theorem dX1_bringDenial_35 : decode cX1_bringDenial 35 = .ok (.iload_n 2, 1) := by decide +kernel
theorem dX1_bringDenial_36 : decode cX1_bringDenial 36 = .ok (.iaload, 1) := by decide +kernel
theorem dX1_bringDenial_37 : decode cX1_bringDenial 37 = .ok (.iconst 2, 1) := by decide +kernel
theorem dX1_bringDenial_38 : decode cX1_bringDenial 38 = .ok (.idiv, 1) := by decide +kernel
theorem dX1_bringDenial_39 : decode cX1_bringDenial 39 = .ok (.iadd, 1) := by decide +kernel
theorem dX1_bringDenial_40 : decode cX1_bringDenial 40 = .ok (.iastore, 1) := by decide +kernel
theorem dX1_bringDenial_41 : decode cX1_bringDenial 41 = .ok (.aload_n 0, 1) := by decide +kernel
theorem dX1_bringDenial_42 : decode cX1_bringDenial 42 = .ok (.getfield 31, 3) := by decide +kernel
theorem dX1_bringDenial_45 : decode cX1_bringDenial 45 = .ok (.iload_n 2, 1) := by decide +kernel
theorem dX1_bringDenial_46 : decode cX1_bringDenial 46 = .ok (.iconst (-1), 1) := by decide +kernel
theorem dX1_bringDenial_47 : decode cX1_bringDenial 47 = .ok (.iastore, 1) := by decide +kernel
theorem dX1_bringDenial_48 : decode cX1_bringDenial 48 = .ok (.return_, 1) := by decide +kernel
theorem dX1_passHour_0 : decode cX1_passHour 0 = .ok (.iconst 0, 1) := by decide +kernel
theorem dX1_passHour_1 : decode cX1_passHour 1 = .ok (.istore_n 3, 1) := by decide +kernel
theorem dX1_passHour_2 : decode cX1_passHour 2 = .ok (.iconst 0, 1) := by decide +kernel
theorem dX1_passHour_3 : decode cX1_passHour 3 = .ok (.istore 4, 2) := by decide +kernel
theorem dX1_passHour_5 : decode cX1_passHour 5 = .ok (.iload 4, 2) := by decide +kernel
theorem dX1_passHour_7 : decode cX1_passHour 7 = .ok (.aload_n 1, 1) := by decide +kernel
theorem dX1_passHour_8 : decode cX1_passHour 8 = .ok (.getfield 61, 3) := by decide +kernel
theorem dX1_passHour_11 : decode cX1_passHour 11 = .ok (.if_icmp .ge 81, 3) := by decide +kernel
theorem dX1_passHour_14 : decode cX1_passHour 14 = .ok (.aload_n 0, 1) := by decide +kernel
theorem dX1_passHour_15 : decode cX1_passHour 15 = .ok (.getfield 37, 3) := by decide +kernel
theorem dX1_passHour_18 : decode cX1_passHour 18 = .ok (.iload 4, 2) := by decide +kernel
theorem dX1_passHour_20 : decode cX1_passHour 20 = .ok (.iaload, 1) := by decide +kernel
theorem dX1_passHour_21 : decode cX1_passHour 21 = .ok (.iload_n 2, 1) := by decide +kernel
theorem dX1_passHour_22 : decode cX1_passHour 22 = .ok (.if_icmp .ne 37, 3) := by decide +kernel
theorem dX1_passHour_25 : decode cX1_passHour 25 = .ok (.aload_n 0, 1) := by decide +kernel
theorem dX1_passHour_26 : decode cX1_passHour 26 = .ok (.getfield 37, 3) := by decide +kernel
theorem dX1_passHour_29 : decode cX1_passHour 29 = .ok (.iload 4, 2) := by decide +kernel
theorem dX1_passHour_31 : decode cX1_passHour 31 = .ok (.iconst (-1), 1) := by decide +kernel
theorem dX1_passHour_32 : decode cX1_passHour 32 = .ok (.iastore, 1) := by decide +kernel
theorem dX1_passHour_33 : decode cX1_passHour 33 = .ok (.iload_n 3, 1) := by decide +kernel
theorem dX1_passHour_34 : decode cX1_passHour 34 = .ok (.aload_n 0, 1) := by decide +kernel
theorem dX1_passHour_35 : decode cX1_passHour 35 = .ok (.aload_n 1, 1) := by decide +kernel
theorem dX1_passHour_36 : decode cX1_passHour 36 = .ok (.iload 4, 2) := by decide +kernel
theorem dX1_passHour_38 : decode cX1_passHour 38 = .ok (.aload_n 0, 1) := by decide +kernel
theorem dX1_passHour_39 : decode cX1_passHour 39 = .ok (.getfield 40, 3) := by decide +kernel
theorem dX1_passHour_42 : decode cX1_passHour 42 = .ok (.iload 4, 2) := by decide +kernel
theorem dX1_passHour_44 : decode cX1_passHour 44 = .ok (.iaload, 1) := by decide +kernel
theorem dX1_passHour_45 : decode cX1_passHour 45 = .ok (.iload_n 2, 1) := by decide +kernel
theorem dX1_passHour_46 : decode cX1_passHour 46 = .ok (.invokevirtual 46, 3) := by decide +kernel
theorem dX1_passHour_49 : decode cX1_passHour 49 = .ok (.ifCond .eq 7, 3) := by decide +kernel
theorem dX1_passHour_52 : decode cX1_passHour 52 = .ok (.iconst 1, 1) := by decide +kernel
theorem dX1_passHour_53 : decode cX1_passHour 53 = .ok (.goto 4, 3) := by decide +kernel
theorem dX1_passHour_56 : decode cX1_passHour 56 = .ok (.iconst 0, 1) := by decide +kernel
theorem dX1_passHour_57 : decode cX1_passHour 57 = .ok (.iadd, 1) := by decide +kernel
theorem dX1_passHour_58 : decode cX1_passHour 58 = .ok (.istore_n 3, 1) := by decide +kernel
theorem dX1_passHour_59 : decode cX1_passHour 59 = .ok (.aload_n 0, 1) := by decide +kernel
theorem dX1_passHour_60 : decode cX1_passHour 60 = .ok (.getfield 43, 3) := by decide +kernel
theorem dX1_passHour_63 : decode cX1_passHour 63 = .ok (.iload 4, 2) := by decide +kernel
theorem dX1_passHour_65 : decode cX1_passHour 65 = .ok (.iaload, 1) := by decide +kernel
theorem dX1_passHour_66 : decode cX1_passHour 66 = .ok (.iload_n 2, 1) := by decide +kernel
theorem dX1_passHour_67 : decode cX1_passHour 67 = .ok (.if_icmp .ne 19, 3) := by decide +kernel
theorem dX1_passHour_70 : decode cX1_passHour 70 = .ok (.aload_n 0, 1) := by decide +kernel
theorem dX1_passHour_71 : decode cX1_passHour 71 = .ok (.getfield 43, 3) := by decide +kernel
theorem dX1_passHour_74 : decode cX1_passHour 74 = .ok (.iload 4, 2) := by decide +kernel
theorem dX1_passHour_76 : decode cX1_passHour 76 = .ok (.iconst (-1), 1) := by decide +kernel
theorem dX1_passHour_77 : decode cX1_passHour 77 = .ok (.iastore, 1) := by decide +kernel
theorem dX1_passHour_78 : decode cX1_passHour 78 = .ok (.aload_n 0, 1) := by decide +kernel
theorem dX1_passHour_79 : decode cX1_passHour 79 = .ok (.aload_n 1, 1) := by decide +kernel
theorem dX1_passHour_80 : decode cX1_passHour 80 = .ok (.iload 4, 2) := by decide +kernel
theorem dX1_passHour_82 : decode cX1_passHour 82 = .ok (.iload_n 2, 1) := by decide +kernel
theorem dX1_passHour_83 : decode cX1_passHour 83 = .ok (.invokevirtual 64, 3) := by decide +kernel
theorem dX1_passHour_86 : decode cX1_passHour 86 = .ok (.iinc 4 1, 3) := by decide +kernel
theorem dX1_passHour_89 : decode cX1_passHour 89 = .ok (.goto (-84), 3) := by decide +kernel
theorem dX1_passHour_92 : decode cX1_passHour 92 = .ok (.iconst 0, 1) := by decide +kernel
theorem dX1_passHour_93 : decode cX1_passHour 93 = .ok (.istore 4, 2) := by decide +kernel
theorem dX1_passHour_95 : decode cX1_passHour 95 = .ok (.iload 4, 2) := by decide +kernel
theorem dX1_passHour_97 : decode cX1_passHour 97 = .ok (.aload_n 1, 1) := by decide +kernel
theorem dX1_passHour_98 : decode cX1_passHour 98 = .ok (.getfield 61, 3) := by decide +kernel
theorem dX1_passHour_101 : decode cX1_passHour 101 = .ok (.if_icmp .ge 63, 3) := by decide +kernel
theorem dX1_passHour_104 : decode cX1_passHour 104 = .ok (.aload_n 0, 1) := by decide +kernel
theorem dX1_passHour_105 : decode cX1_passHour 105 = .ok (.getfield 31, 3) := by decide +kernel
theorem dX1_passHour_108 : decode cX1_passHour 108 = .ok (.iload 4, 2) := by decide +kernel
theorem dX1_passHour_110 : decode cX1_passHour 110 = .ok (.iaload, 1) := by decide +kernel
theorem dX1_passHour_111 : decode cX1_passHour 111 = .ok (.iload_n 2, 1) := by decide +kernel
theorem dX1_passHour_112 : decode cX1_passHour 112 = .ok (.if_icmp .ne 19, 3) := by decide +kernel
theorem dX1_passHour_115 : decode cX1_passHour 115 = .ok (.aload_n 0, 1) := by decide +kernel
theorem dX1_passHour_116 : decode cX1_passHour 116 = .ok (.getfield 31, 3) := by decide +kernel
theorem dX1_passHour_119 : decode cX1_passHour 119 = .ok (.iload 4, 2) := by decide +kernel
theorem dX1_passHour_121 : decode cX1_passHour 121 = .ok (.iconst (-1), 1) := by decide +kernel
theorem dX1_passHour_122 : decode cX1_passHour 122 = .ok (.iastore, 1) := by decide +kernel
theorem dX1_passHour_123 : decode cX1_passHour 123 = .ok (.aload_n 0, 1) := by decide +kernel
theorem dX1_passHour_124 : decode cX1_passHour 124 = .ok (.aload_n 1, 1) := by decide +kernel
theorem dX1_passHour_125 : decode cX1_passHour 125 = .ok (.iload 4, 2) := by decide +kernel
theorem dX1_passHour_127 : decode cX1_passHour 127 = .ok (.iload_n 2, 1) := by decide +kernel
theorem dX1_passHour_128 : decode cX1_passHour 128 = .ok (.invokevirtual 68, 3) := by decide +kernel
theorem dX1_passHour_131 : decode cX1_passHour 131 = .ok (.aload_n 0, 1) := by decide +kernel
theorem dX1_passHour_132 : decode cX1_passHour 132 = .ok (.getfield 34, 3) := by decide +kernel
theorem dX1_passHour_135 : decode cX1_passHour 135 = .ok (.iload 4, 2) := by decide +kernel
theorem dX1_passHour_137 : decode cX1_passHour 137 = .ok (.iaload, 1) := by decide +kernel
theorem dX1_passHour_138 : decode cX1_passHour 138 = .ok (.iload_n 2, 1) := by decide +kernel
theorem dX1_passHour_139 : decode cX1_passHour 139 = .ok (.if_icmp .ne 19, 3) := by decide +kernel
theorem dX1_passHour_142 : decode cX1_passHour 142 = .ok (.aload_n 0, 1) := by decide +kernel
theorem dX1_passHour_143 : decode cX1_passHour 143 = .ok (.getfield 34, 3) := by decide +kernel
theorem dX1_passHour_146 : decode cX1_passHour 146 = .ok (.iload 4, 2) := by decide +kernel
theorem dX1_passHour_148 : decode cX1_passHour 148 = .ok (.iconst (-1), 1) := by decide +kernel
theorem dX1_passHour_149 : decode cX1_passHour 149 = .ok (.iastore, 1) := by decide +kernel
theorem dX1_passHour_150 : decode cX1_passHour 150 = .ok (.aload_n 0, 1) := by decide +kernel
theorem dX1_passHour_151 : decode cX1_passHour 151 = .ok (.aload_n 1, 1) := by decide +kernel
theorem dX1_passHour_152 : decode cX1_passHour 152 = .ok (.iload 4, 2) := by decide +kernel
theorem dX1_passHour_154 : decode cX1_passHour 154 = .ok (.iload_n 2, 1) := by decide +kernel
theorem dX1_passHour_155 : decode cX1_passHour 155 = .ok (.invokevirtual 71, 3) := by decide +kernel
theorem dX1_passHour_158 : decode cX1_passHour 158 = .ok (.iinc 4 1, 3) := by decide +kernel
theorem dX1_passHour_161 : decode cX1_passHour 161 = .ok (.goto (-66), 3) := by decide +kernel
theorem dX1_passHour_164 : decode cX1_passHour 164 = .ok (.iload_n 3, 1) := by decide +kernel
theorem dX1_passHour_165 : decode cX1_passHour 165 = .ok (.ireturn, 1) := by decide +kernel
theorem dX1_tellRumour_0 : decode cX1_tellRumour 0 = .ok (.aload_n 0, 1) := by decide +kernel
theorem dX1_tellRumour_1 : decode cX1_tellRumour 1 = .ok (.getfield 28, 3) := by decide +kernel
theorem dX1_tellRumour_4 : decode cX1_tellRumour 4 = .ok (.iload_n 2, 1) := by decide +kernel
theorem dX1_tellRumour_5 : decode cX1_tellRumour 5 = .ok (.iaload, 1) := by decide +kernel
theorem dX1_tellRumour_6 : decode cX1_tellRumour 6 = .ok (.iconst 1, 1) := by decide +kernel
theorem dX1_tellRumour_7 : decode cX1_tellRumour 7 = .ok (.iadd, 1) := by decide +kernel
theorem dX1_tellRumour_8 : decode cX1_tellRumour 8 = .ok (.istore 4, 2) := by decide +kernel
theorem dX1_tellRumour_10 : decode cX1_tellRumour 10 = .ok (.iload 4, 2) := by decide +kernel
theorem dX1_tellRumour_12 : decode cX1_tellRumour 12 = .ok (.aload_n 0, 1) := by decide +kernel
theorem dX1_tellRumour_13 : decode cX1_tellRumour 13 = .ok (.getfield 15, 3) := by decide +kernel
theorem dX1_tellRumour_16 : decode cX1_tellRumour 16 = .ok (.if_icmp .le 4, 3) := by decide +kernel
theorem dX1_tellRumour_19 : decode cX1_tellRumour 19 = .ok (.return_, 1) := by decide +kernel
theorem dX1_tellRumour_20 : decode cX1_tellRumour 20 = .ok (.iconst 0, 1) := by decide +kernel
theorem dX1_tellRumour_21 : decode cX1_tellRumour 21 = .ok (.istore 5, 2) := by decide +kernel
theorem dX1_tellRumour_23 : decode cX1_tellRumour 23 = .ok (.iload 5, 2) := by decide +kernel
theorem dX1_tellRumour_25 : decode cX1_tellRumour 25 = .ok (.aload_n 1, 1) := by decide +kernel
theorem dX1_tellRumour_26 : decode cX1_tellRumour 26 = .ok (.getfield 61, 3) := by decide +kernel
theorem dX1_tellRumour_29 : decode cX1_tellRumour 29 = .ok (.if_icmp .ge 112, 3) := by decide +kernel
theorem dX1_tellRumour_32 : decode cX1_tellRumour 32 = .ok (.iload_n 3, 1) := by decide +kernel
theorem dX1_tellRumour_33 : decode cX1_tellRumour 33 = .ok (.aload_n 1, 1) := by decide +kernel
theorem dX1_tellRumour_34 : decode cX1_tellRumour 34 = .ok (.getfield 74, 3) := by decide +kernel
theorem dX1_tellRumour_37 : decode cX1_tellRumour 37 = .ok (.iload_n 2, 1) := by decide +kernel
theorem dX1_tellRumour_38 : decode cX1_tellRumour 38 = .ok (.aaload, 1) := by decide +kernel
theorem dX1_tellRumour_39 : decode cX1_tellRumour 39 = .ok (.iload 5, 2) := by decide +kernel
theorem dX1_tellRumour_41 : decode cX1_tellRumour 41 = .ok (.iaload, 1) := by decide +kernel
theorem dX1_tellRumour_42 : decode cX1_tellRumour 42 = .ok (.iadd, 1) := by decide +kernel
theorem dX1_tellRumour_43 : decode cX1_tellRumour 43 = .ok (.istore 6, 2) := by decide +kernel
theorem dX1_tellRumour_45 : decode cX1_tellRumour 45 = .ok (.aload_n 0, 1) := by decide +kernel
theorem dX1_tellRumour_46 : decode cX1_tellRumour 46 = .ok (.getfield 37, 3) := by decide +kernel
theorem dX1_tellRumour_49 : decode cX1_tellRumour 49 = .ok (.iload 5, 2) := by decide +kernel
theorem dX1_tellRumour_51 : decode cX1_tellRumour 51 = .ok (.iaload, 1) := by decide +kernel
theorem dX1_tellRumour_52 : decode cX1_tellRumour 52 = .ok (.iconst (-1), 1) := by decide +kernel
theorem dX1_tellRumour_53 : decode cX1_tellRumour 53 = .ok (.if_icmp .eq 39, 3) := by decide +kernel
theorem dX1_tellRumour_56 : decode cX1_tellRumour 56 = .ok (.iload 6, 2) := by decide +kernel
theorem dX1_tellRumour_58 : decode cX1_tellRumour 58 = .ok (.aload_n 0, 1) := by decide +kernel
theorem dX1_tellRumour_59 : decode cX1_tellRumour 59 = .ok (.getfield 37, 3) := by decide +kernel
theorem dX1_tellRumour_62 : decode cX1_tellRumour 62 = .ok (.iload 5, 2) := by decide +kernel
theorem dX1_tellRumour_64 : decode cX1_tellRumour 64 = .ok (.iaload, 1) := by decide +kernel
theorem dX1_tellRumour_65 : decode cX1_tellRumour 65 = .ok (.if_icmp .lt 27, 3) := by decide +kernel
theorem dX1_tellRumour_68 : decode cX1_tellRumour 68 = .ok (.iload 6, 2) := by decide +kernel
theorem dX1_tellRumour_70 : decode cX1_tellRumour 70 = .ok (.aload_n 0, 1) := by decide +kernel
theorem dX1_tellRumour_71 : decode cX1_tellRumour 71 = .ok (.getfield 37, 3) := by decide +kernel
theorem dX1_tellRumour_74 : decode cX1_tellRumour 74 = .ok (.iload 5, 2) := by decide +kernel
theorem dX1_tellRumour_76 : decode cX1_tellRumour 76 = .ok (.iaload, 1) := by decide +kernel
theorem dX1_tellRumour_77 : decode cX1_tellRumour 77 = .ok (.if_icmp .ne 19, 3) := by decide +kernel
theorem dX1_tellRumour_80 : decode cX1_tellRumour 80 = .ok (.iload 4, 2) := by decide +kernel
theorem dX1_tellRumour_82 : decode cX1_tellRumour 82 = .ok (.aload_n 0, 1) := by decide +kernel
theorem dX1_tellRumour_83 : decode cX1_tellRumour 83 = .ok (.getfield 40, 3) := by decide +kernel
theorem dX1_tellRumour_86 : decode cX1_tellRumour 86 = .ok (.iload 5, 2) := by decide +kernel
theorem dX1_tellRumour_88 : decode cX1_tellRumour 88 = .ok (.iaload, 1) := by decide +kernel
theorem dX1_tellRumour_89 : decode cX1_tellRumour 89 = .ok (.if_icmp .ge 7, 3) := by decide +kernel
theorem dX1_tellRumour_92 : decode cX1_tellRumour 92 = .ok (.iconst 1, 1) := by decide +kernel
theorem dX1_tellRumour_93 : decode cX1_tellRumour 93 = .ok (.goto 4, 3) := by decide +kernel
theorem dX1_tellRumour_96 : decode cX1_tellRumour 96 = .ok (.iconst 0, 1) := by decide +kernel
theorem dX1_tellRumour_97 : decode cX1_tellRumour 97 = .ok (.istore 7, 2) := by decide +kernel
theorem dX1_tellRumour_99 : decode cX1_tellRumour 99 = .ok (.aload_n 1, 1) := by decide +kernel
theorem dX1_tellRumour_100 : decode cX1_tellRumour 100 = .ok (.getfield 74, 3) := by decide +kernel
theorem dX1_tellRumour_103 : decode cX1_tellRumour 103 = .ok (.iload_n 2, 1) := by decide +kernel
theorem dX1_tellRumour_104 : decode cX1_tellRumour 104 = .ok (.aaload, 1) := by decide +kernel
theorem dX1_tellRumour_105 : decode cX1_tellRumour 105 = .ok (.iload 5, 2) := by decide +kernel
theorem dX1_tellRumour_107 : decode cX1_tellRumour 107 = .ok (.iaload, 1) := by decide +kernel
theorem dX1_tellRumour_108 : decode cX1_tellRumour 108 = .ok (.iconst (-1), 1) := by decide +kernel
theorem dX1_tellRumour_109 : decode cX1_tellRumour 109 = .ok (.if_icmp .eq 26, 3) := by decide +kernel
theorem dX1_tellRumour_112 : decode cX1_tellRumour 112 = .ok (.iload 7, 2) := by decide +kernel
theorem dX1_tellRumour_114 : decode cX1_tellRumour 114 = .ok (.ifCond .eq 21, 3) := by decide +kernel
theorem dX1_tellRumour_117 : decode cX1_tellRumour 117 = .ok (.aload_n 0, 1) := by decide +kernel
theorem dX1_tellRumour_118 : decode cX1_tellRumour 118 = .ok (.getfield 37, 3) := by decide +kernel
theorem dX1_tellRumour_121 : decode cX1_tellRumour 121 = .ok (.iload 5, 2) := by decide +kernel
theorem dX1_tellRumour_123 : decode cX1_tellRumour 123 = .ok (.iload 6, 2) := by decide +kernel
theorem dX1_tellRumour_125 : decode cX1_tellRumour 125 = .ok (.iastore, 1) := by decide +kernel
theorem dX1_tellRumour_126 : decode cX1_tellRumour 126 = .ok (.aload_n 0, 1) := by decide +kernel
theorem dX1_tellRumour_127 : decode cX1_tellRumour 127 = .ok (.getfield 40, 3) := by decide +kernel
theorem dX1_tellRumour_130 : decode cX1_tellRumour 130 = .ok (.iload 5, 2) := by decide +kernel
theorem dX1_tellRumour_132 : decode cX1_tellRumour 132 = .ok (.iload 4, 2) := by decide +kernel
theorem dX1_tellRumour_134 : decode cX1_tellRumour 134 = .ok (.iastore, 1) := by decide +kernel
theorem dX1_tellRumour_135 : decode cX1_tellRumour 135 = .ok (.iinc 5 1, 3) := by decide +kernel
theorem dX1_tellRumour_138 : decode cX1_tellRumour 138 = .ok (.goto (-115), 3) := by decide +kernel
theorem dX1_tellRumour_141 : decode cX1_tellRumour 141 = .ok (.return_, 1) := by decide +kernel
theorem dX1_tellDenial_0 : decode cX1_tellDenial 0 = .ok (.iconst 0, 1) := by decide +kernel
theorem dX1_tellDenial_1 : decode cX1_tellDenial 1 = .ok (.istore 4, 2) := by decide +kernel
theorem dX1_tellDenial_3 : decode cX1_tellDenial 3 = .ok (.iload 4, 2) := by decide +kernel
theorem dX1_tellDenial_5 : decode cX1_tellDenial 5 = .ok (.aload_n 1, 1) := by decide +kernel
theorem dX1_tellDenial_6 : decode cX1_tellDenial 6 = .ok (.getfield 61, 3) := by decide +kernel
theorem dX1_tellDenial_9 : decode cX1_tellDenial 9 = .ok (.if_icmp .ge 79, 3) := by decide +kernel
theorem dX1_tellDenial_12 : decode cX1_tellDenial 12 = .ok (.iload_n 3, 1) := by decide +kernel
theorem dX1_tellDenial_13 : decode cX1_tellDenial 13 = .ok (.aload_n 1, 1) := by decide +kernel
theorem dX1_tellDenial_14 : decode cX1_tellDenial 14 = .ok (.getfield 74, 3) := by decide +kernel
theorem dX1_tellDenial_17 : decode cX1_tellDenial 17 = .ok (.iload_n 2, 1) := by decide +kernel
theorem dX1_tellDenial_18 : decode cX1_tellDenial 18 = .ok (.aaload, 1) := by decide +kernel
theorem dX1_tellDenial_19 : decode cX1_tellDenial 19 = .ok (.iload 4, 2) := by decide +kernel
theorem dX1_tellDenial_21 : decode cX1_tellDenial 21 = .ok (.iaload, 1) := by decide +kernel
theorem dX1_tellDenial_22 : decode cX1_tellDenial 22 = .ok (.iadd, 1) := by decide +kernel
theorem dX1_tellDenial_23 : decode cX1_tellDenial 23 = .ok (.istore 5, 2) := by decide +kernel
theorem dX1_tellDenial_25 : decode cX1_tellDenial 25 = .ok (.aload_n 0, 1) := by decide +kernel
theorem dX1_tellDenial_26 : decode cX1_tellDenial 26 = .ok (.getfield 43, 3) := by decide +kernel
theorem dX1_tellDenial_29 : decode cX1_tellDenial 29 = .ok (.iload 4, 2) := by decide +kernel
theorem dX1_tellDenial_31 : decode cX1_tellDenial 31 = .ok (.iaload, 1) := by decide +kernel
theorem dX1_tellDenial_32 : decode cX1_tellDenial 32 = .ok (.iconst (-1), 1) := by decide +kernel
theorem dX1_tellDenial_33 : decode cX1_tellDenial 33 = .ok (.if_icmp .eq 15, 3) := by decide +kernel
theorem dX1_tellDenial_36 : decode cX1_tellDenial 36 = .ok (.iload 5, 2) := by decide +kernel
theorem dX1_tellDenial_38 : decode cX1_tellDenial 38 = .ok (.aload_n 0, 1) := by decide +kernel
theorem dX1_tellDenial_39 : decode cX1_tellDenial 39 = .ok (.getfield 43, 3) := by decide +kernel
theorem dX1_tellDenial_42 : decode cX1_tellDenial 42 = .ok (.iload 4, 2) := by decide +kernel
theorem dX1_tellDenial_44 : decode cX1_tellDenial 44 = .ok (.iaload, 1) := by decide +kernel
theorem dX1_tellDenial_45 : decode cX1_tellDenial 45 = .ok (.if_icmp .ge 7, 3) := by decide +kernel
theorem dX1_tellDenial_48 : decode cX1_tellDenial 48 = .ok (.iconst 1, 1) := by decide +kernel
theorem dX1_tellDenial_49 : decode cX1_tellDenial 49 = .ok (.goto 4, 3) := by decide +kernel
theorem dX1_tellDenial_52 : decode cX1_tellDenial 52 = .ok (.iconst 0, 1) := by decide +kernel
theorem dX1_tellDenial_53 : decode cX1_tellDenial 53 = .ok (.istore 6, 2) := by decide +kernel
theorem dX1_tellDenial_55 : decode cX1_tellDenial 55 = .ok (.aload_n 1, 1) := by decide +kernel
theorem dX1_tellDenial_56 : decode cX1_tellDenial 56 = .ok (.getfield 74, 3) := by decide +kernel
theorem dX1_tellDenial_59 : decode cX1_tellDenial 59 = .ok (.iload_n 2, 1) := by decide +kernel
theorem dX1_tellDenial_60 : decode cX1_tellDenial 60 = .ok (.aaload, 1) := by decide +kernel
theorem dX1_tellDenial_61 : decode cX1_tellDenial 61 = .ok (.iload 4, 2) := by decide +kernel
theorem dX1_tellDenial_63 : decode cX1_tellDenial 63 = .ok (.iaload, 1) := by decide +kernel
theorem dX1_tellDenial_64 : decode cX1_tellDenial 64 = .ok (.iconst (-1), 1) := by decide +kernel
theorem dX1_tellDenial_65 : decode cX1_tellDenial 65 = .ok (.if_icmp .eq 17, 3) := by decide +kernel
theorem dX1_tellDenial_68 : decode cX1_tellDenial 68 = .ok (.iload 6, 2) := by decide +kernel
theorem dX1_tellDenial_70 : decode cX1_tellDenial 70 = .ok (.ifCond .eq 12, 3) := by decide +kernel
theorem dX1_tellDenial_73 : decode cX1_tellDenial 73 = .ok (.aload_n 0, 1) := by decide +kernel
theorem dX1_tellDenial_74 : decode cX1_tellDenial 74 = .ok (.getfield 43, 3) := by decide +kernel
theorem dX1_tellDenial_77 : decode cX1_tellDenial 77 = .ok (.iload 4, 2) := by decide +kernel
theorem dX1_tellDenial_79 : decode cX1_tellDenial 79 = .ok (.iload 5, 2) := by decide +kernel
theorem dX1_tellDenial_81 : decode cX1_tellDenial 81 = .ok (.iastore, 1) := by decide +kernel
theorem dX1_tellDenial_82 : decode cX1_tellDenial 82 = .ok (.iinc 4 1, 3) := by decide +kernel
theorem dX1_tellDenial_85 : decode cX1_tellDenial 85 = .ok (.goto (-82), 3) := by decide +kernel
theorem dX1_tellDenial_88 : decode cX1_tellDenial 88 = .ok (.return_, 1) := by decide +kernel
theorem dX1_lookAhead_0 : decode cX1_lookAhead 0 = .ok (.iconst 0, 1) := by decide +kernel
theorem dX1_lookAhead_1 : decode cX1_lookAhead 1 = .ok (.istore_n 3, 1) := by decide +kernel
theorem dX1_lookAhead_2 : decode cX1_lookAhead 2 = .ok (.iload_n 3, 1) := by decide +kernel
theorem dX1_lookAhead_3 : decode cX1_lookAhead 3 = .ok (.bipush 100, 2) := by decide +kernel
theorem dX1_lookAhead_5 : decode cX1_lookAhead 5 = .ok (.if_icmp .ge 29, 3) := by decide +kernel
theorem dX1_lookAhead_8 : decode cX1_lookAhead 8 = .ok (.aload_n 0, 1) := by decide +kernel
theorem dX1_lookAhead_9 : decode cX1_lookAhead 9 = .ok (.aload_n 1, 1) := by decide +kernel
theorem dX1_lookAhead_10 : decode cX1_lookAhead 10 = .ok (.getfield 61, 3) := by decide +kernel
theorem dX1_lookAhead_13 : decode cX1_lookAhead 13 = .ok (.invokevirtual 78, 3) := by decide +kernel
theorem dX1_lookAhead_16 : decode cX1_lookAhead 16 = .ok (.ifCond .ne 18, 3) := by decide +kernel
theorem dX1_lookAhead_19 : decode cX1_lookAhead 19 = .ok (.aload_n 0, 1) := by decide +kernel
theorem dX1_lookAhead_20 : decode cX1_lookAhead 20 = .ok (.aload_n 1, 1) := by decide +kernel
theorem dX1_lookAhead_21 : decode cX1_lookAhead 21 = .ok (.iload_n 2, 1) := by decide +kernel
theorem dX1_lookAhead_22 : decode cX1_lookAhead 22 = .ok (.iload_n 3, 1) := by decide +kernel
theorem dX1_lookAhead_23 : decode cX1_lookAhead 23 = .ok (.iadd, 1) := by decide +kernel
theorem dX1_lookAhead_24 : decode cX1_lookAhead 24 = .ok (.invokevirtual 82, 3) := by decide +kernel
theorem dX1_lookAhead_27 : decode cX1_lookAhead 27 = .ok (.pop, 1) := by decide +kernel
theorem dX1_lookAhead_28 : decode cX1_lookAhead 28 = .ok (.iinc 3 1, 3) := by decide +kernel
theorem dX1_lookAhead_31 : decode cX1_lookAhead 31 = .ok (.goto (-29), 3) := by decide +kernel
theorem dX1_lookAhead_34 : decode cX1_lookAhead 34 = .ok (.iload_n 3, 1) := by decide +kernel
theorem dX1_lookAhead_35 : decode cX1_lookAhead 35 = .ok (.ireturn, 1) := by decide +kernel
theorem dX1_isQuiet_0 : decode cX1_isQuiet 0 = .ok (.iconst 0, 1) := by decide +kernel
theorem dX1_isQuiet_1 : decode cX1_isQuiet 1 = .ok (.istore_n 2, 1) := by decide +kernel
theorem dX1_isQuiet_2 : decode cX1_isQuiet 2 = .ok (.iload_n 2, 1) := by decide +kernel
theorem dX1_isQuiet_3 : decode cX1_isQuiet 3 = .ok (.iload_n 1, 1) := by decide +kernel
theorem dX1_isQuiet_4 : decode cX1_isQuiet 4 = .ok (.if_icmp .ge 39, 3) := by decide +kernel
theorem dX1_isQuiet_7 : decode cX1_isQuiet 7 = .ok (.aload_n 0, 1) := by decide +kernel
theorem dX1_isQuiet_8 : decode cX1_isQuiet 8 = .ok (.getfield 31, 3) := by decide +kernel
theorem dX1_isQuiet_11 : decode cX1_isQuiet 11 = .ok (.iload_n 2, 1) := by decide +kernel
theorem dX1_isQuiet_12 : decode cX1_isQuiet 12 = .ok (.iaload, 1) := by decide +kernel
theorem dX1_isQuiet_13 : decode cX1_isQuiet 13 = .ok (.iconst (-1), 1) := by decide +kernel
theorem dX1_isQuiet_14 : decode cX1_isQuiet 14 = .ok (.if_icmp .ne 21, 3) := by decide +kernel
theorem dX1_isQuiet_17 : decode cX1_isQuiet 17 = .ok (.aload_n 0, 1) := by decide +kernel
theorem dX1_isQuiet_18 : decode cX1_isQuiet 18 = .ok (.getfield 34, 3) := by decide +kernel
theorem dX1_isQuiet_21 : decode cX1_isQuiet 21 = .ok (.iload_n 2, 1) := by decide +kernel
theorem dX1_isQuiet_22 : decode cX1_isQuiet 22 = .ok (.iaload, 1) := by decide +kernel
theorem dX1_isQuiet_23 : decode cX1_isQuiet 23 = .ok (.iconst (-1), 1) := by decide +kernel
theorem dX1_isQuiet_24 : decode cX1_isQuiet 24 = .ok (.if_icmp .ne 11, 3) := by decide +kernel
theorem dX1_isQuiet_27 : decode cX1_isQuiet 27 = .ok (.aload_n 0, 1) := by decide +kernel
theorem dX1_isQuiet_28 : decode cX1_isQuiet 28 = .ok (.iload_n 2, 1) := by decide +kernel
theorem dX1_isQuiet_29 : decode cX1_isQuiet 29 = .ok (.invokevirtual 86, 3) := by decide +kernel
theorem dX1_isQuiet_32 : decode cX1_isQuiet 32 = .ok (.ifCond .eq 5, 3) := by decide +kernel
theorem dX1_isQuiet_35 : decode cX1_isQuiet 35 = .ok (.iconst 0, 1) := by decide +kernel
theorem dX1_isQuiet_36 : decode cX1_isQuiet 36 = .ok (.ireturn, 1) := by decide +kernel
theorem dX1_isQuiet_37 : decode cX1_isQuiet 37 = .ok (.iinc 2 1, 3) := by decide +kernel
theorem dX1_isQuiet_40 : decode cX1_isQuiet 40 = .ok (.goto (-38), 3) := by decide +kernel
theorem dX1_isQuiet_43 : decode cX1_isQuiet 43 = .ok (.iconst 1, 1) := by decide +kernel
theorem dX1_isQuiet_44 : decode cX1_isQuiet 44 = .ok (.ireturn, 1) := by decide +kernel
theorem dX1_isUnderWayTo_0 : decode cX1_isUnderWayTo 0 = .ok (.aload_n 0, 1) := by decide +kernel
theorem dX1_isUnderWayTo_1 : decode cX1_isUnderWayTo 1 = .ok (.getfield 37, 3) := by decide +kernel
theorem dX1_isUnderWayTo_4 : decode cX1_isUnderWayTo 4 = .ok (.iload_n 1, 1) := by decide +kernel
theorem dX1_isUnderWayTo_5 : decode cX1_isUnderWayTo 5 = .ok (.iaload, 1) := by decide +kernel
theorem dX1_isUnderWayTo_6 : decode cX1_isUnderWayTo 6 = .ok (.iconst (-1), 1) := by decide +kernel
theorem dX1_isUnderWayTo_7 : decode cX1_isUnderWayTo 7 = .ok (.if_icmp .ne 13, 3) := by decide +kernel
theorem dX1_isUnderWayTo_10 : decode cX1_isUnderWayTo 10 = .ok (.aload_n 0, 1) := by decide +kernel
theorem dX1_isUnderWayTo_11 : decode cX1_isUnderWayTo 11 = .ok (.getfield 43, 3) := by decide +kernel
theorem dX1_isUnderWayTo_14 : decode cX1_isUnderWayTo 14 = .ok (.iload_n 1, 1) := by decide +kernel
theorem dX1_isUnderWayTo_15 : decode cX1_isUnderWayTo 15 = .ok (.iaload, 1) := by decide +kernel
theorem dX1_isUnderWayTo_16 : decode cX1_isUnderWayTo 16 = .ok (.iconst (-1), 1) := by decide +kernel
theorem dX1_isUnderWayTo_17 : decode cX1_isUnderWayTo 17 = .ok (.if_icmp .eq 7, 3) := by decide +kernel
theorem dX1_isUnderWayTo_20 : decode cX1_isUnderWayTo 20 = .ok (.iconst 1, 1) := by decide +kernel
theorem dX1_isUnderWayTo_21 : decode cX1_isUnderWayTo 21 = .ok (.goto 4, 3) := by decide +kernel
theorem dX1_isUnderWayTo_24 : decode cX1_isUnderWayTo 24 = .ok (.iconst 0, 1) := by decide +kernel
theorem dX1_isUnderWayTo_25 : decode cX1_isUnderWayTo 25 = .ok (.ireturn, 1) := by decide +kernel
theorem dX1_headsThatBelieve_0 : decode cX1_headsThatBelieve 0 = .ok (.iconst 0, 1) := by decide +kernel
theorem dX1_headsThatBelieve_1 : decode cX1_headsThatBelieve 1 = .ok (.istore_n 2, 1) := by decide +kernel
theorem dX1_headsThatBelieve_2 : decode cX1_headsThatBelieve 2 = .ok (.iconst 0, 1) := by decide +kernel
theorem dX1_headsThatBelieve_3 : decode cX1_headsThatBelieve 3 = .ok (.istore_n 3, 1) := by decide +kernel
theorem dX1_headsThatBelieve_4 : decode cX1_headsThatBelieve 4 = .ok (.iload_n 3, 1) := by decide +kernel
theorem dX1_headsThatBelieve_5 : decode cX1_headsThatBelieve 5 = .ok (.aload_n 1, 1) := by decide +kernel
theorem dX1_headsThatBelieve_6 : decode cX1_headsThatBelieve 6 = .ok (.getfield 61, 3) := by decide +kernel
theorem dX1_headsThatBelieve_9 : decode cX1_headsThatBelieve 9 = .ok (.if_icmp .ge 28, 3) := by decide +kernel
theorem dX1_headsThatBelieve_12 : decode cX1_headsThatBelieve 12 = .ok (.aload_n 0, 1) := by decide +kernel
theorem dX1_headsThatBelieve_13 : decode cX1_headsThatBelieve 13 = .ok (.getfield 18, 3) := by decide +kernel
theorem dX1_headsThatBelieve_16 : decode cX1_headsThatBelieve 16 = .ok (.iload_n 3, 1) := by decide +kernel
theorem dX1_headsThatBelieve_17 : decode cX1_headsThatBelieve 17 = .ok (.iaload, 1) := by decide +kernel
theorem dX1_headsThatBelieve_18 : decode cX1_headsThatBelieve 18 = .ok (.iconst 1, 1) := by decide +kernel
theorem dX1_headsThatBelieve_19 : decode cX1_headsThatBelieve 19 = .ok (.if_icmp .ne 12, 3) := by decide +kernel
theorem dX1_headsThatBelieve_22 : decode cX1_headsThatBelieve 22 = .ok (.iload_n 2, 1) := by decide +kernel
theorem dX1_headsThatBelieve_23 : decode cX1_headsThatBelieve 23 = .ok (.aload_n 1, 1) := by decide +kernel
theorem dX1_headsThatBelieve_24 : decode cX1_headsThatBelieve 24 = .ok (.getfield 89, 3) := by decide +kernel
theorem dX1_headsThatBelieve_27 : decode cX1_headsThatBelieve 27 = .ok (.iload_n 3, 1) := by decide +kernel
theorem dX1_headsThatBelieve_28 : decode cX1_headsThatBelieve 28 = .ok (.iaload, 1) := by decide +kernel
theorem dX1_headsThatBelieve_29 : decode cX1_headsThatBelieve 29 = .ok (.iadd, 1) := by decide +kernel
theorem dX1_headsThatBelieve_30 : decode cX1_headsThatBelieve 30 = .ok (.istore_n 2, 1) := by decide +kernel
theorem dX1_headsThatBelieve_31 : decode cX1_headsThatBelieve 31 = .ok (.iinc 3 1, 3) := by decide +kernel
theorem dX1_headsThatBelieve_34 : decode cX1_headsThatBelieve 34 = .ok (.goto (-30), 3) := by decide +kernel
theorem dX1_headsThatBelieve_37 : decode cX1_headsThatBelieve 37 = .ok (.iload_n 2, 1) := by decide +kernel
theorem dX1_headsThatBelieve_38 : decode cX1_headsThatBelieve 38 = .ok (.ireturn, 1) := by decide +kernel
theorem dX2_init_0 : decode cX2_init 0 = .ok (.aload_n 0, 1) := by decide +kernel
theorem dX2_init_1 : decode cX2_init 1 = .ok (.invokespecial 3, 3) := by decide +kernel
theorem dX2_init_4 : decode cX2_init 4 = .ok (.aload_n 0, 1) := by decide +kernel
theorem dX2_init_5 : decode cX2_init 5 = .ok (.bipush 12, 2) := by decide +kernel
theorem dX2_init_7 : decode cX2_init 7 = .ok (.newarray .int, 2) := by decide +kernel
theorem dX2_init_9 : decode cX2_init 9 = .ok (.putfield 9, 3) := by decide +kernel
theorem dX2_init_12 : decode cX2_init 12 = .ok (.aload_n 0, 1) := by decide +kernel
theorem dX2_init_13 : decode cX2_init 13 = .ok (.bipush 12, 2) := by decide +kernel
theorem dX2_init_15 : decode cX2_init 15 = .ok (.newarray .int, 2) := by decide +kernel
theorem dX2_init_17 : decode cX2_init 17 = .ok (.putfield 15, 3) := by decide +kernel
theorem dX2_init_20 : decode cX2_init 20 = .ok (.aload_n 0, 1) := by decide +kernel
theorem dX2_init_21 : decode cX2_init 21 = .ok (.bipush 12, 2) := by decide +kernel
theorem dX2_init_23 : decode cX2_init 23 = .ok (.newarray .int, 2) := by decide +kernel
theorem dX2_init_25 : decode cX2_init 25 = .ok (.putfield 18, 3) := by decide +kernel
theorem dX2_init_28 : decode cX2_init 28 = .ok (.aload_n 0, 1) := by decide +kernel
theorem dX2_init_29 : decode cX2_init 29 = .ok (.bipush 12, 2) := by decide +kernel
theorem dX2_init_31 : decode cX2_init 31 = .ok (.newarray .boolean, 2) := by decide +kernel
theorem dX2_init_33 : decode cX2_init 33 = .ok (.putfield 21, 3) := by decide +kernel
theorem dX2_init_36 : decode cX2_init 36 = .ok (.aload_n 0, 1) := by decide +kernel
theorem dX2_init_37 : decode cX2_init 37 = .ok (.iconst 4, 1) := by decide +kernel
theorem dX2_init_38 : decode cX2_init 38 = .ok (.anewarray 25, 3) := by decide +kernel
theorem dX2_init_41 : decode cX2_init 41 = .ok (.putfield 27, 3) := by decide +kernel
theorem dX2_init_44 : decode cX2_init 44 = .ok (.aload_n 0, 1) := by decide +kernel
theorem dX2_init_45 : decode cX2_init 45 = .ok (.bipush 12, 2) := by decide +kernel
theorem dX2_init_47 : decode cX2_init 47 = .ok (.bipush 12, 2) := by decide +kernel
theorem dX2_init_49 : decode cX2_init 49 = .ok (.multianewarray 31 2, 4) := by decide +kernel
theorem dX2_init_53 : decode cX2_init 53 = .ok (.putfield 33, 3) := by decide +kernel
theorem dX2_init_56 : decode cX2_init 56 = .ok (.iconst 0, 1) := by decide +kernel
theorem dX2_init_57 : decode cX2_init 57 = .ok (.istore_n 1, 1) := by decide +kernel
theorem dX2_init_58 : decode cX2_init 58 = .ok (.iload_n 1, 1) := by decide +kernel
theorem dX2_init_59 : decode cX2_init 59 = .ok (.iconst 4, 1) := by decide +kernel
theorem dX2_init_60 : decode cX2_init 60 = .ok (.if_icmp .ge 22, 3) := by decide +kernel
theorem dX2_init_63 : decode cX2_init 63 = .ok (.aload_n 0, 1) := by decide +kernel
theorem dX2_init_64 : decode cX2_init 64 = .ok (.getfield 27, 3) := by decide +kernel
theorem dX2_init_67 : decode cX2_init 67 = .ok (.iload_n 1, 1) := by decide +kernel
theorem dX2_init_68 : decode cX2_init 68 = .ok (.new 25, 3) := by decide +kernel
theorem dX2_init_71 : decode cX2_init 71 = .ok (.dup, 1) := by decide +kernel
theorem dX2_init_72 : decode cX2_init 72 = .ok (.invokespecial 36, 3) := by decide +kernel
theorem dX2_init_75 : decode cX2_init 75 = .ok (.aastore, 1) := by decide +kernel
theorem dX2_init_76 : decode cX2_init 76 = .ok (.iinc 1 1, 3) := by decide +kernel
theorem dX2_init_79 : decode cX2_init 79 = .ok (.goto (-21), 3) := by decide +kernel
theorem dX2_init_82 : decode cX2_init 82 = .ok (.aload_n 0, 1) := by decide +kernel
theorem dX2_init_83 : decode cX2_init 83 = .ok (.bipush 6, 2) := by decide +kernel
theorem dX2_init_85 : decode cX2_init 85 = .ok (.invokevirtual 37, 3) := by decide +kernel
theorem dX2_init_88 : decode cX2_init 88 = .ok (.return_, 1) := by decide +kernel
theorem dX2_reset_0 : decode cX2_reset 0 = .ok (.aload_n 0, 1) := by decide +kernel
theorem dX2_reset_1 : decode cX2_reset 1 = .ok (.iload_n 1, 1) := by decide +kernel
theorem dX2_reset_2 : decode cX2_reset 2 = .ok (.putfield 41, 3) := by decide +kernel
theorem dX2_reset_5 : decode cX2_reset 5 = .ok (.aload_n 0, 1) := by decide +kernel
theorem dX2_reset_6 : decode cX2_reset 6 = .ok (.iconst 0, 1) := by decide +kernel
theorem dX2_reset_7 : decode cX2_reset 7 = .ok (.putfield 45, 3) := by decide +kernel
theorem dX2_reset_10 : decode cX2_reset 10 = .ok (.iconst 0, 1) := by decide +kernel
theorem dX2_reset_11 : decode cX2_reset 11 = .ok (.istore_n 2, 1) := by decide +kernel
theorem dX2_reset_12 : decode cX2_reset 12 = .ok (.iload_n 2, 1) := by decide +kernel
theorem dX2_reset_13 : decode cX2_reset 13 = .ok (.bipush 12, 2) := by decide +kernel
theorem dX2_reset_15 : decode cX2_reset 15 = .ok (.if_icmp .ge 38, 3) := by decide +kernel
theorem dX2_reset_18 : decode cX2_reset 18 = .ok (.aload_n 0, 1) := by decide +kernel
theorem dX2_reset_19 : decode cX2_reset 19 = .ok (.getfield 9, 3) := by decide +kernel
theorem dX2_reset_22 : decode cX2_reset 22 = .ok (.iload_n 2, 1) := by decide +kernel
theorem dX2_reset_23 : decode cX2_reset 23 = .ok (.bipush 10, 2) := by decide +kernel
theorem dX2_reset_25 : decode cX2_reset 25 = .ok (.iastore, 1) := by decide +kernel
theorem dX2_reset_26 : decode cX2_reset 26 = .ok (.aload_n 0, 1) := by decide +kernel
theorem dX2_reset_27 : decode cX2_reset 27 = .ok (.getfield 15, 3) := by decide +kernel
theorem dX2_reset_30 : decode cX2_reset 30 = .ok (.iload_n 2, 1) := by decide +kernel
theorem dX2_reset_31 : decode cX2_reset 31 = .ok (.iconst 2, 1) := by decide +kernel
theorem dX2_reset_32 : decode cX2_reset 32 = .ok (.iastore, 1) := by decide +kernel
theorem dX2_reset_33 : decode cX2_reset 33 = .ok (.aload_n 0, 1) := by decide +kernel
theorem dX2_reset_34 : decode cX2_reset 34 = .ok (.getfield 18, 3) := by decide +kernel
theorem dX2_reset_37 : decode cX2_reset 37 = .ok (.iload_n 2, 1) := by decide +kernel
theorem dX2_reset_38 : decode cX2_reset 38 = .ok (.iconst 3, 1) := by decide +kernel
theorem dX2_reset_39 : decode cX2_reset 39 = .ok (.iastore, 1) := by decide +kernel
theorem dX2_reset_40 : decode cX2_reset 40 = .ok (.aload_n 0, 1) := by decide +kernel
theorem dX2_reset_41 : decode cX2_reset 41 = .ok (.getfield 21, 3) := by decide +kernel
theorem dX2_reset_44 : decode cX2_reset 44 = .ok (.iload_n 2, 1) := by decide +kernel
theorem dX2_reset_45 : decode cX2_reset 45 = .ok (.iconst 1, 1) := by decide +kernel
theorem dX2_reset_46 : decode cX2_reset 46 = .ok (.bastore, 1) := by decide +kernel
theorem dX2_reset_47 : decode cX2_reset 47 = .ok (.iinc 2 1, 3) := by decide +kernel
theorem dX2_reset_50 : decode cX2_reset 50 = .ok (.goto (-38), 3) := by decide +kernel
theorem dX2_reset_53 : decode cX2_reset 53 = .ok (.aload_n 0, 1) := by decide +kernel
theorem dX2_reset_54 : decode cX2_reset 54 = .ok (.invokevirtual 48, 3) := by decide +kernel
theorem dX2_reset_57 : decode cX2_reset 57 = .ok (.return_, 1) := by decide +kernel
theorem dX2_putLift_0 : decode cX2_putLift 0 = .ok (.aload_n 0, 1) := by decide +kernel
theorem dX2_putLift_1 : decode cX2_putLift 1 = .ok (.getfield 45, 3) := by decide +kernel
theorem dX2_putLift_4 : decode cX2_putLift 4 = .ok (.istore 5, 2) := by decide +kernel
theorem dX2_putLift_6 : decode cX2_putLift 6 = .ok (.aload_n 0, 1) := by decide +kernel
theorem dX2_putLift_7 : decode cX2_putLift 7 = .ok (.getfield 27, 3) := by decide +kernel
theorem dX2_putLift_10 : decode cX2_putLift 10 = .ok (.iload 5, 2) := by decide +kernel
theorem dX2_putLift_12 : decode cX2_putLift 12 = .ok (.aaload, 1) := by decide +kernel
theorem dX2_putLift_13 : decode cX2_putLift 13 = .ok (.iload_n 1, 1) := by decide +kernel
theorem dX2_putLift_14 : decode cX2_putLift 14 = .ok (.iload_n 2, 1) := by decide +kernel
theorem dX2_putLift_15 : decode cX2_putLift 15 = .ok (.iload_n 3, 1) := by decide +kernel
theorem dX2_putLift_16 : decode cX2_putLift 16 = .ok (.iload 4, 2) := by decide +kernel
theorem dX2_putLift_18 : decode cX2_putLift 18 = .ok (.invokevirtual 51, 3) := by decide +kernel
theorem dX2_putLift_21 : decode cX2_putLift 21 = .ok (.aload_n 0, 1) := by decide +kernel
theorem dX2_putLift_22 : decode cX2_putLift 22 = .ok (.iload 5, 2) := by decide +kernel
theorem dX2_putLift_24 : decode cX2_putLift 24 = .ok (.iconst 1, 1) := by decide +kernel
theorem dX2_putLift_25 : decode cX2_putLift 25 = .ok (.iadd, 1) := by decide +kernel
theorem dX2_putLift_26 : decode cX2_putLift 26 = .ok (.putfield 45, 3) := by decide +kernel
theorem dX2_putLift_29 : decode cX2_putLift 29 = .ok (.aload_n 0, 1) := by decide +kernel
theorem dX2_putLift_30 : decode cX2_putLift 30 = .ok (.invokevirtual 48, 3) := by decide +kernel
theorem dX2_putLift_33 : decode cX2_putLift 33 = .ok (.iload 5, 2) := by decide +kernel
theorem dX2_putLift_35 : decode cX2_putLift 35 = .ok (.ireturn, 1) := by decide +kernel
theorem dX2_letStairs_0 : decode cX2_letStairs 0 = .ok (.aload_n 0, 1) := by decide +kernel
theorem dX2_letStairs_1 : decode cX2_letStairs 1 = .ok (.getfield 21, 3) := by decide +kernel
theorem dX2_letStairs_4 : decode cX2_letStairs 4 = .ok (.iload_n 1, 1) := by decide +kernel
theorem dX2_letStairs_5 : decode cX2_letStairs 5 = .ok (.iload_n 2, 1) := by decide +kernel
theorem dX2_letStairs_6 : decode cX2_letStairs 6 = .ok (.bastore, 1) := by decide +kernel
theorem dX2_letStairs_7 : decode cX2_letStairs 7 = .ok (.aload_n 0, 1) := by decide +kernel
theorem dX2_letStairs_8 : decode cX2_letStairs 8 = .ok (.invokevirtual 48, 3) := by decide +kernel
theorem dX2_letStairs_11 : decode cX2_letStairs 11 = .ok (.return_, 1) := by decide +kernel
theorem dX2_letLift_0 : decode cX2_letLift 0 = .ok (.aload_n 0, 1) := by decide +kernel
theorem dX2_letLift_1 : decode cX2_letLift 1 = .ok (.getfield 27, 3) := by decide +kernel
theorem dX2_letLift_4 : decode cX2_letLift 4 = .ok (.iload_n 1, 1) := by decide +kernel
theorem dX2_letLift_5 : decode cX2_letLift 5 = .ok (.aaload, 1) := by decide +kernel
theorem dX2_letLift_6 : decode cX2_letLift 6 = .ok (.iload_n 2, 1) := by decide +kernel
theorem dX2_letLift_7 : decode cX2_letLift 7 = .ok (.putfield 55, 3) := by decide +kernel
theorem dX2_letLift_10 : decode cX2_letLift 10 = .ok (.aload_n 0, 1) := by decide +kernel
theorem dX2_letLift_11 : decode cX2_letLift 11 = .ok (.invokevirtual 48, 3) := by decide +kernel
theorem dX2_letLift_14 : decode cX2_letLift 14 = .ok (.return_, 1) := by decide +kernel
theorem dX2_layPipes_0 : decode cX2_layPipes 0 = .ok (.iconst 0, 1) := by decide +kernel
theorem dX2_layPipes_1 : decode cX2_layPipes 1 = .ok (.istore_n 1, 1) := by decide +kernel
theorem dX2_layPipes_2 : decode cX2_layPipes 2 = .ok (.iload_n 1, 1) := by decide +kernel
theorem dX2_layPipes_3 : decode cX2_layPipes 3 = .ok (.aload_n 0, 1) := by decide +kernel
theorem dX2_layPipes_4 : decode cX2_layPipes 4 = .ok (.getfield 41, 3) := by decide +kernel
theorem dX2_layPipes_7 : decode cX2_layPipes 7 = .ok (.if_icmp .ge 61, 3) := by decide +kernel
theorem dX2_layPipes_10 : decode cX2_layPipes 10 = .ok (.aload_n 0, 1) := by decide +kernel
theorem dX2_layPipes_11 : decode cX2_layPipes 11 = .ok (.getfield 33, 3) := by decide +kernel
theorem dX2_layPipes_14 : decode cX2_layPipes 14 = .ok (.iload_n 1, 1) := by decide +kernel
theorem dX2_layPipes_15 : decode cX2_layPipes 15 = .ok (.aaload, 1) := by decide +kernel
theorem dX2_layPipes_16 : decode cX2_layPipes 16 = .ok (.iload_n 1, 1) := by decide +kernel
theorem dX2_layPipes_17 : decode cX2_layPipes 17 = .ok (.iconst (-1), 1) := by decide +kernel
theorem dX2_layPipes_18 : decode cX2_layPipes 18 = .ok (.iastore, 1) := by decide +kernel
theorem dX2_layPipes_19 : decode cX2_layPipes 19 = .ok (.iload_n 1, 1) := by decide +kernel
theorem dX2_layPipes_20 : decode cX2_layPipes 20 = .ok (.iconst 1, 1) := by decide +kernel
theorem dX2_layPipes_21 : decode cX2_layPipes 21 = .ok (.iadd, 1) := by decide +kernel
theorem dX2_layPipes_22 : decode cX2_layPipes 22 = .ok (.istore_n 2, 1) := by decide +kernel
theorem dX2_layPipes_23 : decode cX2_layPipes 23 = .ok (.iload_n 2, 1) := by decide +kernel
theorem dX2_layPipes_24 : decode cX2_layPipes 24 = .ok (.aload_n 0, 1) := by decide +kernel
theorem dX2_layPipes_25 : decode cX2_layPipes 25 = .ok (.getfield 41, 3) := by decide +kernel
theorem dX2_layPipes_28 : decode cX2_layPipes 28 = .ok (.if_icmp .ge 34, 3) := by decide +kernel
theorem dX2_layPipes_31 : decode cX2_layPipes 31 = .ok (.aload_n 0, 1) := by decide +kernel
theorem dX2_layPipes_32 : decode cX2_layPipes 32 = .ok (.iload_n 1, 1) := by decide +kernel
theorem dX2_layPipes_33 : decode cX2_layPipes 33 = .ok (.iload_n 2, 1) := by decide +kernel
theorem dX2_layPipes_34 : decode cX2_layPipes 34 = .ok (.invokevirtual 59, 3) := by decide +kernel
theorem dX2_layPipes_37 : decode cX2_layPipes 37 = .ok (.istore_n 3, 1) := by decide +kernel
theorem dX2_layPipes_38 : decode cX2_layPipes 38 = .ok (.aload_n 0, 1) := by decide +kernel
theorem dX2_layPipes_39 : decode cX2_layPipes 39 = .ok (.getfield 33, 3) := by decide +kernel
theorem dX2_layPipes_42 : decode cX2_layPipes 42 = .ok (.iload_n 1, 1) := by decide +kernel
theorem dX2_layPipes_43 : decode cX2_layPipes 43 = .ok (.aaload, 1) := by decide +kernel
theorem dX2_layPipes_44 : decode cX2_layPipes 44 = .ok (.iload_n 2, 1) := by decide +kernel
theorem dX2_layPipes_45 : decode cX2_layPipes 45 = .ok (.iload_n 3, 1) := by decide +kernel
theorem dX2_layPipes_46 : decode cX2_layPipes 46 = .ok (.iastore, 1) := by decide +kernel
theorem dX2_layPipes_47 : decode cX2_layPipes 47 = .ok (.aload_n 0, 1) := by decide +kernel
theorem dX2_layPipes_48 : decode cX2_layPipes 48 = .ok (.getfield 33, 3) := by decide +kernel
theorem dX2_layPipes_51 : decode cX2_layPipes 51 = .ok (.iload_n 2, 1) := by decide +kernel
theorem dX2_layPipes_52 : decode cX2_layPipes 52 = .ok (.aaload, 1) := by decide +kernel
theorem dX2_layPipes_53 : decode cX2_layPipes 53 = .ok (.iload_n 1, 1) := by decide +kernel
theorem dX2_layPipes_54 : decode cX2_layPipes 54 = .ok (.iload_n 3, 1) := by decide +kernel
theorem dX2_layPipes_55 : decode cX2_layPipes 55 = .ok (.iastore, 1) := by decide +kernel
theorem dX2_layPipes_56 : decode cX2_layPipes 56 = .ok (.iinc 2 1, 3) := by decide +kernel
theorem dX2_layPipes_59 : decode cX2_layPipes 59 = .ok (.goto (-36), 3) := by decide +kernel
theorem dX2_layPipes_62 : decode cX2_layPipes 62 = .ok (.iinc 1 1, 3) := by decide +kernel
theorem dX2_layPipes_65 : decode cX2_layPipes 65 = .ok (.goto (-63), 3) := by decide +kernel
theorem dX2_layPipes_68 : decode cX2_layPipes 68 = .ok (.return_, 1) := by decide +kernel
theorem dX2_fewestHours_0 : decode cX2_fewestHours 0 = .ok (.iload_n 2, 1) := by decide +kernel
theorem dX2_fewestHours_1 : decode cX2_fewestHours 1 = .ok (.iload_n 1, 1) := by decide +kernel
theorem dX2_fewestHours_2 : decode cX2_fewestHours 2 = .ok (.isub, 1) := by decide +kernel
theorem dX2_fewestHours_3 : decode cX2_fewestHours 3 = .ok (.iconst 1, 1) := by decide +kernel
theorem dX2_fewestHours_4 : decode cX2_fewestHours 4 = .ok (.if_icmp .ne 21, 3) := by decide +kernel
theorem dX2_fewestHours_7 : decode cX2_fewestHours 7 = .ok (.aload_n 0, 1) := by decide +kernel
theorem dX2_fewestHours_8 : decode cX2_fewestHours 8 = .ok (.getfield 21, 3) := by decide +kernel
theorem dX2_fewestHours_11 : decode cX2_fewestHours 11 = .ok (.iload_n 1, 1) := by decide +kernel
theorem dX2_fewestHours_12 : decode cX2_fewestHours 12 = .ok (.baload, 1) := by decide +kernel
theorem dX2_fewestHours_13 : decode cX2_fewestHours 13 = .ok (.ifCond .eq 12, 3) := by decide +kernel
theorem dX2_fewestHours_16 : decode cX2_fewestHours 16 = .ok (.aload_n 0, 1) := by decide +kernel
theorem dX2_fewestHours_17 : decode cX2_fewestHours 17 = .ok (.getfield 18, 3) := by decide +kernel
theorem dX2_fewestHours_20 : decode cX2_fewestHours 20 = .ok (.iload_n 1, 1) := by decide +kernel
theorem dX2_fewestHours_21 : decode cX2_fewestHours 21 = .ok (.iaload, 1) := by decide +kernel
theorem dX2_fewestHours_22 : decode cX2_fewestHours 22 = .ok (.goto 4, 3) := by decide +kernel
theorem dX2_fewestHours_25 : decode cX2_fewestHours 25 = .ok (.iconst (-1), 1) := by decide +kernel
theorem dX2_fewestHours_26 : decode cX2_fewestHours 26 = .ok (.istore_n 3, 1) := by decide +kernel
theorem dX2_fewestHours_27 : decode cX2_fewestHours 27 = .ok (.iconst 0, 1) := by decide +kernel
theorem dX2_fewestHours_28 : decode cX2_fewestHours 28 = .ok (.istore 4, 2) := by decide +kernel
theorem dX2_fewestHours_30 : decode cX2_fewestHours 30 = .ok (.iload 4, 2) := by decide +kernel
theorem dX2_fewestHours_32 : decode cX2_fewestHours 32 = .ok (.aload_n 0, 1) := by decide +kernel
theorem dX2_fewestHours_33 : decode cX2_fewestHours 33 = .ok (.getfield 45, 3) := by decide +kernel
theorem dX2_fewestHours_36 : decode cX2_fewestHours 36 = .ok (.if_icmp .ge 43, 3) := by decide +kernel
theorem dX2_fewestHours_39 : decode cX2_fewestHours 39 = .ok (.aload_n 0, 1) := by decide +kernel
theorem dX2_fewestHours_40 : decode cX2_fewestHours 40 = .ok (.getfield 27, 3) := by decide +kernel
theorem dX2_fewestHours_43 : decode cX2_fewestHours 43 = .ok (.iload 4, 2) := by decide +kernel
theorem dX2_fewestHours_45 : decode cX2_fewestHours 45 = .ok (.aaload, 1) := by decide +kernel
theorem dX2_fewestHours_46 : decode cX2_fewestHours 46 = .ok (.iload_n 1, 1) := by decide +kernel
theorem dX2_fewestHours_47 : decode cX2_fewestHours 47 = .ok (.iload_n 2, 1) := by decide +kernel
theorem dX2_fewestHours_48 : decode cX2_fewestHours 48 = .ok (.invokevirtual 63, 3) := by decide +kernel
theorem dX2_fewestHours_51 : decode cX2_fewestHours 51 = .ok (.istore 5, 2) := by decide +kernel
theorem dX2_fewestHours_53 : decode cX2_fewestHours 53 = .ok (.iload 5, 2) := by decide +kernel
theorem dX2_fewestHours_55 : decode cX2_fewestHours 55 = .ok (.iconst (-1), 1) := by decide +kernel
theorem dX2_fewestHours_56 : decode cX2_fewestHours 56 = .ok (.if_icmp .eq 17, 3) := by decide +kernel
theorem dX2_fewestHours_59 : decode cX2_fewestHours 59 = .ok (.iload_n 3, 1) := by decide +kernel
theorem dX2_fewestHours_60 : decode cX2_fewestHours 60 = .ok (.iconst (-1), 1) := by decide +kernel
theorem dX2_fewestHours_61 : decode cX2_fewestHours 61 = .ok (.if_icmp .eq 9, 3) := by decide +kernel
theorem dX2_fewestHours_64 : decode cX2_fewestHours 64 = .ok (.iload 5, 2) := by decide +kernel
theorem dX2_fewestHours_66 : decode cX2_fewestHours 66 = .ok (.iload_n 3, 1) := by decide +kernel
theorem dX2_fewestHours_67 : decode cX2_fewestHours 67 = .ok (.if_icmp .ge 6, 3) := by decide +kernel
theorem dX2_fewestHours_70 : decode cX2_fewestHours 70 = .ok (.iload 5, 2) := by decide +kernel
theorem dX2_fewestHours_72 : decode cX2_fewestHours 72 = .ok (.istore_n 3, 1) := by decide +kernel
theorem dX2_fewestHours_73 : decode cX2_fewestHours 73 = .ok (.iinc 4 1, 3) := by decide +kernel
theorem dX2_fewestHours_76 : decode cX2_fewestHours 76 = .ok (.goto (-46), 3) := by decide +kernel
theorem dX2_fewestHours_79 : decode cX2_fewestHours 79 = .ok (.iload_n 3, 1) := by decide +kernel
theorem dX2_fewestHours_80 : decode cX2_fewestHours 80 = .ok (.ireturn, 1) := by decide +kernel
theorem dX3_init_0 : decode cX3_init 0 = .ok (.aload_n 0, 1) := by decide +kernel
theorem dX3_init_1 : decode cX3_init 1 = .ok (.invokespecial 3, 3) := by decide +kernel
theorem dX3_init_4 : decode cX3_init 4 = .ok (.aload_n 0, 1) := by decide +kernel
theorem dX3_init_5 : decode cX3_init 5 = .ok (.bipush 12, 2) := by decide +kernel
theorem dX3_init_7 : decode cX3_init 7 = .ok (.newarray .int, 2) := by decide +kernel
theorem dX3_init_9 : decode cX3_init 9 = .ok (.putfield 9, 3) := by decide +kernel
theorem dX3_init_12 : decode cX3_init 12 = .ok (.aload_n 0, 1) := by decide +kernel
theorem dX3_init_13 : decode cX3_init 13 = .ok (.bipush 12, 2) := by decide +kernel
theorem dX3_init_15 : decode cX3_init 15 = .ok (.newarray .int, 2) := by decide +kernel
theorem dX3_init_17 : decode cX3_init 17 = .ok (.putfield 15, 3) := by decide +kernel
theorem dX3_init_20 : decode cX3_init 20 = .ok (.aload_n 0, 1) := by decide +kernel
theorem dX3_init_21 : decode cX3_init 21 = .ok (.bipush 12, 2) := by decide +kernel
theorem dX3_init_23 : decode cX3_init 23 = .ok (.newarray .boolean, 2) := by decide +kernel
theorem dX3_init_25 : decode cX3_init 25 = .ok (.putfield 18, 3) := by decide +kernel
theorem dX3_init_28 : decode cX3_init 28 = .ok (.return_, 1) := by decide +kernel
theorem dX3_findFrom_0 : decode cX3_findFrom 0 = .ok (.iconst 0, 1) := by decide +kernel
theorem dX3_findFrom_1 : decode cX3_findFrom 1 = .ok (.istore_n 3, 1) := by decide +kernel
theorem dX3_findFrom_2 : decode cX3_findFrom 2 = .ok (.iload_n 3, 1) := by decide +kernel
theorem dX3_findFrom_3 : decode cX3_findFrom 3 = .ok (.bipush 12, 2) := by decide +kernel
theorem dX3_findFrom_5 : decode cX3_findFrom 5 = .ok (.if_icmp .ge 30, 3) := by decide +kernel
theorem dX3_findFrom_8 : decode cX3_findFrom 8 = .ok (.aload_n 0, 1) := by decide +kernel
theorem dX3_findFrom_9 : decode cX3_findFrom 9 = .ok (.getfield 9, 3) := by decide +kernel
theorem dX3_findFrom_12 : decode cX3_findFrom 12 = .ok (.iload_n 3, 1) := by decide +kernel
theorem dX3_findFrom_13 : decode cX3_findFrom 13 = .ok (.iconst (-1), 1) := by decide +kernel
theorem dX3_findFrom_14 : decode cX3_findFrom 14 = .ok (.iastore, 1) := by decide +kernel
theorem dX3_findFrom_15 : decode cX3_findFrom 15 = .ok (.aload_n 0, 1) := by decide +kernel
theorem dX3_findFrom_16 : decode cX3_findFrom 16 = .ok (.getfield 15, 3) := by decide +kernel
theorem dX3_findFrom_19 : decode cX3_findFrom 19 = .ok (.iload_n 3, 1) := by decide +kernel
theorem dX3_findFrom_20 : decode cX3_findFrom 20 = .ok (.iconst (-1), 1) := by decide +kernel
theorem dX3_findFrom_21 : decode cX3_findFrom 21 = .ok (.iastore, 1) := by decide +kernel
theorem dX3_findFrom_22 : decode cX3_findFrom 22 = .ok (.aload_n 0, 1) := by decide +kernel
theorem dX3_findFrom_23 : decode cX3_findFrom 23 = .ok (.getfield 18, 3) := by decide +kernel
theorem dX3_findFrom_26 : decode cX3_findFrom 26 = .ok (.iload_n 3, 1) := by decide +kernel
theorem dX3_findFrom_27 : decode cX3_findFrom 27 = .ok (.iconst 0, 1) := by decide +kernel
theorem dX3_findFrom_28 : decode cX3_findFrom 28 = .ok (.bastore, 1) := by decide +kernel
theorem dX3_findFrom_29 : decode cX3_findFrom 29 = .ok (.iinc 3 1, 3) := by decide +kernel
theorem dX3_findFrom_32 : decode cX3_findFrom 32 = .ok (.goto (-30), 3) := by decide +kernel
theorem dX3_findFrom_35 : decode cX3_findFrom 35 = .ok (.aload_n 0, 1) := by decide +kernel
theorem dX3_findFrom_36 : decode cX3_findFrom 36 = .ok (.getfield 9, 3) := by decide +kernel
theorem dX3_findFrom_39 : decode cX3_findFrom 39 = .ok (.iload_n 2, 1) := by decide +kernel
theorem dX3_findFrom_40 : decode cX3_findFrom 40 = .ok (.iconst 0, 1) := by decide +kernel
theorem dX3_findFrom_41 : decode cX3_findFrom 41 = .ok (.iastore, 1) := by decide +kernel
theorem dX3_findFrom_42 : decode cX3_findFrom 42 = .ok (.aload_n 0, 1) := by decide +kernel
theorem dX3_findFrom_43 : decode cX3_findFrom 43 = .ok (.getfield 15, 3) := by decide +kernel
theorem dX3_findFrom_46 : decode cX3_findFrom 46 = .ok (.iload_n 2, 1) := by decide +kernel
theorem dX3_findFrom_47 : decode cX3_findFrom 47 = .ok (.iconst 0, 1) := by decide +kernel
theorem dX3_findFrom_48 : decode cX3_findFrom 48 = .ok (.iastore, 1) := by decide +kernel
theorem dX3_findFrom_49 : decode cX3_findFrom 49 = .ok (.iconst 0, 1) := by decide +kernel
theorem dX3_findFrom_50 : decode cX3_findFrom 50 = .ok (.istore_n 3, 1) := by decide +kernel
theorem dX3_findFrom_51 : decode cX3_findFrom 51 = .ok (.iload_n 3, 1) := by decide +kernel
theorem dX3_findFrom_52 : decode cX3_findFrom 52 = .ok (.aload_n 1, 1) := by decide +kernel
theorem dX3_findFrom_53 : decode cX3_findFrom 53 = .ok (.getfield 22, 3) := by decide +kernel
theorem dX3_findFrom_56 : decode cX3_findFrom 56 = .ok (.if_icmp .ge 41, 3) := by decide +kernel
theorem dX3_findFrom_59 : decode cX3_findFrom 59 = .ok (.aload_n 0, 1) := by decide +kernel
theorem dX3_findFrom_60 : decode cX3_findFrom 60 = .ok (.aload_n 1, 1) := by decide +kernel
theorem dX3_findFrom_61 : decode cX3_findFrom 61 = .ok (.getfield 22, 3) := by decide +kernel
theorem dX3_findFrom_64 : decode cX3_findFrom 64 = .ok (.invokevirtual 28, 3) := by decide +kernel
theorem dX3_findFrom_67 : decode cX3_findFrom 67 = .ok (.istore 4, 2) := by decide +kernel
theorem dX3_findFrom_69 : decode cX3_findFrom 69 = .ok (.iload 4, 2) := by decide +kernel
theorem dX3_findFrom_71 : decode cX3_findFrom 71 = .ok (.iconst (-1), 1) := by decide +kernel
theorem dX3_findFrom_72 : decode cX3_findFrom 72 = .ok (.if_icmp .ne 4, 3) := by decide +kernel
theorem dX3_findFrom_75 : decode cX3_findFrom 75 = .ok (.return_, 1) := by decide +kernel
theorem dX3_findFrom_76 : decode cX3_findFrom 76 = .ok (.aload_n 0, 1) := by decide +kernel
theorem dX3_findFrom_77 : decode cX3_findFrom 77 = .ok (.getfield 18, 3) := by decide +kernel
theorem dX3_findFrom_80 : decode cX3_findFrom 80 = .ok (.iload 4, 2) := by decide +kernel
theorem dX3_findFrom_82 : decode cX3_findFrom 82 = .ok (.iconst 1, 1) := by decide +kernel
theorem dX3_findFrom_83 : decode cX3_findFrom 83 = .ok (.bastore, 1) := by decide +kernel
theorem dX3_findFrom_84 : decode cX3_findFrom 84 = .ok (.aload_n 0, 1) := by decide +kernel
theorem dX3_findFrom_85 : decode cX3_findFrom 85 = .ok (.aload_n 1, 1) := by decide +kernel
theorem dX3_findFrom_86 : decode cX3_findFrom 86 = .ok (.iload 4, 2) := by decide +kernel
theorem dX3_findFrom_88 : decode cX3_findFrom 88 = .ok (.invokevirtual 32, 3) := by decide +kernel
theorem dX3_findFrom_91 : decode cX3_findFrom 91 = .ok (.iinc 3 1, 3) := by decide +kernel
theorem dX3_findFrom_94 : decode cX3_findFrom 94 = .ok (.goto (-43), 3) := by decide +kernel
theorem dX3_findFrom_97 : decode cX3_findFrom 97 = .ok (.return_, 1) := by decide +kernel
theorem dX3_nearest_0 : decode cX3_nearest 0 = .ok (.iconst (-1), 1) := by decide +kernel
theorem dX3_nearest_1 : decode cX3_nearest 1 = .ok (.istore_n 2, 1) := by decide +kernel
theorem dX3_nearest_2 : decode cX3_nearest 2 = .ok (.iconst 0, 1) := by decide +kernel
theorem dX3_nearest_3 : decode cX3_nearest 3 = .ok (.istore_n 3, 1) := by decide +kernel
theorem dX3_nearest_4 : decode cX3_nearest 4 = .ok (.iload_n 3, 1) := by decide +kernel
theorem dX3_nearest_5 : decode cX3_nearest 5 = .ok (.iload_n 1, 1) := by decide +kernel
theorem dX3_nearest_6 : decode cX3_nearest 6 = .ok (.if_icmp .ge 67, 3) := by decide +kernel
theorem dX3_nearest_9 : decode cX3_nearest 9 = .ok (.aload_n 0, 1) := by decide +kernel
theorem dX3_nearest_10 : decode cX3_nearest 10 = .ok (.getfield 18, 3) := by decide +kernel
theorem dX3_nearest_13 : decode cX3_nearest 13 = .ok (.iload_n 3, 1) := by decide +kernel
theorem dX3_nearest_14 : decode cX3_nearest 14 = .ok (.baload, 1) := by decide +kernel
theorem dX3_nearest_15 : decode cX3_nearest 15 = .ok (.ifCond .ne 17, 3) := by decide +kernel
theorem dX3_nearest_18 : decode cX3_nearest 18 = .ok (.aload_n 0, 1) := by decide +kernel
theorem dX3_nearest_19 : decode cX3_nearest 19 = .ok (.getfield 9, 3) := by decide +kernel
theorem dX3_nearest_22 : decode cX3_nearest 22 = .ok (.iload_n 3, 1) := by decide +kernel
theorem dX3_nearest_23 : decode cX3_nearest 23 = .ok (.iaload, 1) := by decide +kernel
theorem dX3_nearest_24 : decode cX3_nearest 24 = .ok (.iconst (-1), 1) := by decide +kernel
theorem dX3_nearest_25 : decode cX3_nearest 25 = .ok (.if_icmp .eq 7, 3) := by decide +kernel
theorem dX3_nearest_28 : decode cX3_nearest 28 = .ok (.iconst 1, 1) := by decide +kernel
theorem dX3_nearest_29 : decode cX3_nearest 29 = .ok (.goto 4, 3) := by decide +kernel
theorem dX3_nearest_32 : decode cX3_nearest 32 = .ok (.iconst 0, 1) := by decide +kernel
theorem dX3_nearest_33 : decode cX3_nearest 33 = .ok (.istore 4, 2) := by decide +kernel
theorem dX3_nearest_35 : decode cX3_nearest 35 = .ok (.iload 4, 2) := by decide +kernel
theorem dX3_nearest_37 : decode cX3_nearest 37 = .ok (.ifCond .eq 30, 3) := by decide +kernel
theorem dX3_nearest_40 : decode cX3_nearest 40 = .ok (.iload_n 2, 1) := by decide +kernel
theorem dX3_nearest_41 : decode cX3_nearest 41 = .ok (.iconst (-1), 1) := by decide +kernel
theorem dX3_nearest_42 : decode cX3_nearest 42 = .ok (.if_icmp .eq 23, 3) := by decide +kernel
theorem dX3_nearest_45 : decode cX3_nearest 45 = .ok (.aload_n 0, 1) := by decide +kernel
theorem dX3_nearest_46 : decode cX3_nearest 46 = .ok (.aload_n 0, 1) := by decide +kernel
theorem dX3_nearest_47 : decode cX3_nearest 47 = .ok (.getfield 9, 3) := by decide +kernel
theorem dX3_nearest_50 : decode cX3_nearest 50 = .ok (.iload_n 3, 1) := by decide +kernel
theorem dX3_nearest_51 : decode cX3_nearest 51 = .ok (.iaload, 1) := by decide +kernel
theorem dX3_nearest_52 : decode cX3_nearest 52 = .ok (.aload_n 0, 1) := by decide +kernel
theorem dX3_nearest_53 : decode cX3_nearest 53 = .ok (.getfield 15, 3) := by decide +kernel
theorem dX3_nearest_56 : decode cX3_nearest 56 = .ok (.iload_n 3, 1) := by decide +kernel
theorem dX3_nearest_57 : decode cX3_nearest 57 = .ok (.iaload, 1) := by decide +kernel
theorem dX3_nearest_58 : decode cX3_nearest 58 = .ok (.iload_n 2, 1) := by decide +kernel
theorem dX3_nearest_59 : decode cX3_nearest 59 = .ok (.invokevirtual 36, 3) := by decide +kernel
theorem dX3_nearest_62 : decode cX3_nearest 62 = .ok (.ifCond .eq 5, 3) := by decide +kernel
theorem dX3_nearest_65 : decode cX3_nearest 65 = .ok (.iload_n 3, 1) := by decide +kernel
theorem dX3_nearest_66 : decode cX3_nearest 66 = .ok (.istore_n 2, 1) := by decide +kernel
theorem dX3_nearest_67 : decode cX3_nearest 67 = .ok (.iinc 3 1, 3) := by decide +kernel
theorem dX3_nearest_70 : decode cX3_nearest 70 = .ok (.goto (-66), 3) := by decide +kernel
theorem dX3_nearest_73 : decode cX3_nearest 73 = .ok (.iload_n 2, 1) := by decide +kernel
theorem dX3_nearest_74 : decode cX3_nearest 74 = .ok (.ireturn, 1) := by decide +kernel
theorem dX3_leadOn_0 : decode cX3_leadOn 0 = .ok (.iconst 0, 1) := by decide +kernel
theorem dX3_leadOn_1 : decode cX3_leadOn 1 = .ok (.istore_n 3, 1) := by decide +kernel
theorem dX3_leadOn_2 : decode cX3_leadOn 2 = .ok (.iload_n 3, 1) := by decide +kernel
theorem dX3_leadOn_3 : decode cX3_leadOn 3 = .ok (.aload_n 1, 1) := by decide +kernel
theorem dX3_leadOn_4 : decode cX3_leadOn 4 = .ok (.getfield 22, 3) := by decide +kernel
theorem dX3_leadOn_7 : decode cX3_leadOn 7 = .ok (.if_icmp .ge 93, 3) := by decide +kernel
theorem dX3_leadOn_10 : decode cX3_leadOn 10 = .ok (.aload_n 1, 1) := by decide +kernel
theorem dX3_leadOn_11 : decode cX3_leadOn 11 = .ok (.getfield 40, 3) := by decide +kernel
theorem dX3_leadOn_14 : decode cX3_leadOn 14 = .ok (.iload_n 2, 1) := by decide +kernel
theorem dX3_leadOn_15 : decode cX3_leadOn 15 = .ok (.aaload, 1) := by decide +kernel
theorem dX3_leadOn_16 : decode cX3_leadOn 16 = .ok (.iload_n 3, 1) := by decide +kernel
theorem dX3_leadOn_17 : decode cX3_leadOn 17 = .ok (.iaload, 1) := by decide +kernel
theorem dX3_leadOn_18 : decode cX3_leadOn 18 = .ok (.iconst (-1), 1) := by decide +kernel
theorem dX3_leadOn_19 : decode cX3_leadOn 19 = .ok (.if_icmp .eq 75, 3) := by decide +kernel
theorem dX3_leadOn_22 : decode cX3_leadOn 22 = .ok (.aload_n 0, 1) := by decide +kernel
theorem dX3_leadOn_23 : decode cX3_leadOn 23 = .ok (.getfield 9, 3) := by decide +kernel
theorem dX3_leadOn_26 : decode cX3_leadOn 26 = .ok (.iload_n 2, 1) := by decide +kernel
theorem dX3_leadOn_27 : decode cX3_leadOn 27 = .ok (.iaload, 1) := by decide +kernel
theorem dX3_leadOn_28 : decode cX3_leadOn 28 = .ok (.aload_n 1, 1) := by decide +kernel
theorem dX3_leadOn_29 : decode cX3_leadOn 29 = .ok (.getfield 43, 3) := by decide +kernel
theorem dX3_leadOn_32 : decode cX3_leadOn 32 = .ok (.iload_n 2, 1) := by decide +kernel
theorem dX3_leadOn_33 : decode cX3_leadOn 33 = .ok (.iaload, 1) := by decide +kernel
theorem dX3_leadOn_34 : decode cX3_leadOn 34 = .ok (.iadd, 1) := by decide +kernel
theorem dX3_leadOn_35 : decode cX3_leadOn 35 = .ok (.aload_n 1, 1) := by decide +kernel
theorem dX3_leadOn_36 : decode cX3_leadOn 36 = .ok (.getfield 40, 3) := by decide +kernel
theorem dX3_leadOn_39 : decode cX3_leadOn 39 = .ok (.iload_n 2, 1) := by decide +kernel
theorem dX3_leadOn_40 : decode cX3_leadOn 40 = .ok (.aaload, 1) := by decide +kernel
theorem dX3_leadOn_41 : decode cX3_leadOn 41 = .ok (.iload_n 3, 1) := by decide +kernel
theorem dX3_leadOn_42 : decode cX3_leadOn 42 = .ok (.iaload, 1) := by decide +kernel
theorem dX3_leadOn_43 : decode cX3_leadOn 43 = .ok (.iadd, 1) := by decide +kernel
theorem dX3_leadOn_44 : decode cX3_leadOn 44 = .ok (.istore 4, 2) := by decide +kernel
theorem dX3_leadOn_46 : decode cX3_leadOn 46 = .ok (.aload_n 0, 1) := by decide +kernel
theorem dX3_leadOn_47 : decode cX3_leadOn 47 = .ok (.getfield 15, 3) := by decide +kernel
theorem dX3_leadOn_50 : decode cX3_leadOn 50 = .ok (.iload_n 2, 1) := by decide +kernel
theorem dX3_leadOn_51 : decode cX3_leadOn 51 = .ok (.iaload, 1) := by decide +kernel
theorem dX3_leadOn_52 : decode cX3_leadOn 52 = .ok (.iconst 1, 1) := by decide +kernel
theorem dX3_leadOn_53 : decode cX3_leadOn 53 = .ok (.iadd, 1) := by decide +kernel
theorem dX3_leadOn_54 : decode cX3_leadOn 54 = .ok (.istore 5, 2) := by decide +kernel
theorem dX3_leadOn_56 : decode cX3_leadOn 56 = .ok (.aload_n 0, 1) := by decide +kernel
theorem dX3_leadOn_57 : decode cX3_leadOn 57 = .ok (.getfield 9, 3) := by decide +kernel
theorem dX3_leadOn_60 : decode cX3_leadOn 60 = .ok (.iload_n 3, 1) := by decide +kernel
theorem dX3_leadOn_61 : decode cX3_leadOn 61 = .ok (.iaload, 1) := by decide +kernel
theorem dX3_leadOn_62 : decode cX3_leadOn 62 = .ok (.iconst (-1), 1) := by decide +kernel
theorem dX3_leadOn_63 : decode cX3_leadOn 63 = .ok (.if_icmp .eq 15, 3) := by decide +kernel
theorem dX3_leadOn_66 : decode cX3_leadOn 66 = .ok (.aload_n 0, 1) := by decide +kernel
theorem dX3_leadOn_67 : decode cX3_leadOn 67 = .ok (.iload 4, 2) := by decide +kernel
theorem dX3_leadOn_69 : decode cX3_leadOn 69 = .ok (.iload 5, 2) := by decide +kernel
theorem dX3_leadOn_71 : decode cX3_leadOn 71 = .ok (.iload_n 3, 1) := by decide +kernel
theorem dX3_leadOn_72 : decode cX3_leadOn 72 = .ok (.invokevirtual 36, 3) := by decide +kernel
theorem dX3_leadOn_75 : decode cX3_leadOn 75 = .ok (.ifCond .eq 19, 3) := by decide +kernel
theorem dX3_leadOn_78 : decode cX3_leadOn 78 = .ok (.aload_n 0, 1) := by decide +kernel
theorem dX3_leadOn_79 : decode cX3_leadOn 79 = .ok (.getfield 9, 3) := by decide +kernel
theorem dX3_leadOn_82 : decode cX3_leadOn 82 = .ok (.iload_n 3, 1) := by decide +kernel
theorem dX3_leadOn_83 : decode cX3_leadOn 83 = .ok (.iload 4, 2) := by decide +kernel
theorem dX3_leadOn_85 : decode cX3_leadOn 85 = .ok (.iastore, 1) := by decide +kernel
theorem dX3_leadOn_86 : decode cX3_leadOn 86 = .ok (.aload_n 0, 1) := by decide +kernel
theorem dX3_leadOn_87 : decode cX3_leadOn 87 = .ok (.getfield 15, 3) := by decide +kernel
theorem dX3_leadOn_90 : decode cX3_leadOn 90 = .ok (.iload_n 3, 1) := by decide +kernel
theorem dX3_leadOn_91 : decode cX3_leadOn 91 = .ok (.iload 5, 2) := by decide +kernel
theorem dX3_leadOn_93 : decode cX3_leadOn 93 = .ok (.iastore, 1) := by decide +kernel
theorem dX3_leadOn_94 : decode cX3_leadOn 94 = .ok (.iinc 3 1, 3) := by decide +kernel
theorem dX3_leadOn_97 : decode cX3_leadOn 97 = .ok (.goto (-95), 3) := by decide +kernel
theorem dX3_leadOn_100 : decode cX3_leadOn 100 = .ok (.return_, 1) := by decide +kernel
theorem dX3_isBetter_0 : decode cX3_isBetter 0 = .ok (.iload_n 1, 1) := by decide +kernel
theorem dX3_isBetter_1 : decode cX3_isBetter 1 = .ok (.aload_n 0, 1) := by decide +kernel
theorem dX3_isBetter_2 : decode cX3_isBetter 2 = .ok (.getfield 9, 3) := by decide +kernel
theorem dX3_isBetter_5 : decode cX3_isBetter 5 = .ok (.iload_n 3, 1) := by decide +kernel
theorem dX3_isBetter_6 : decode cX3_isBetter 6 = .ok (.iaload, 1) := by decide +kernel
theorem dX3_isBetter_7 : decode cX3_isBetter 7 = .ok (.if_icmp .lt 23, 3) := by decide +kernel
theorem dX3_isBetter_10 : decode cX3_isBetter 10 = .ok (.iload_n 1, 1) := by decide +kernel
theorem dX3_isBetter_11 : decode cX3_isBetter 11 = .ok (.aload_n 0, 1) := by decide +kernel
theorem dX3_isBetter_12 : decode cX3_isBetter 12 = .ok (.getfield 9, 3) := by decide +kernel
theorem dX3_isBetter_15 : decode cX3_isBetter 15 = .ok (.iload_n 3, 1) := by decide +kernel
theorem dX3_isBetter_16 : decode cX3_isBetter 16 = .ok (.iaload, 1) := by decide +kernel
theorem dX3_isBetter_17 : decode cX3_isBetter 17 = .ok (.if_icmp .ne 17, 3) := by decide +kernel
theorem dX3_isBetter_20 : decode cX3_isBetter 20 = .ok (.iload_n 2, 1) := by decide +kernel
theorem dX3_isBetter_21 : decode cX3_isBetter 21 = .ok (.aload_n 0, 1) := by decide +kernel
theorem dX3_isBetter_22 : decode cX3_isBetter 22 = .ok (.getfield 15, 3) := by decide +kernel
theorem dX3_isBetter_25 : decode cX3_isBetter 25 = .ok (.iload_n 3, 1) := by decide +kernel
theorem dX3_isBetter_26 : decode cX3_isBetter 26 = .ok (.iaload, 1) := by decide +kernel
theorem dX3_isBetter_27 : decode cX3_isBetter 27 = .ok (.if_icmp .ge 7, 3) := by decide +kernel
theorem dX3_isBetter_30 : decode cX3_isBetter 30 = .ok (.iconst 1, 1) := by decide +kernel
theorem dX3_isBetter_31 : decode cX3_isBetter 31 = .ok (.goto 4, 3) := by decide +kernel
theorem dX3_isBetter_34 : decode cX3_isBetter 34 = .ok (.iconst 0, 1) := by decide +kernel
theorem dX3_isBetter_35 : decode cX3_isBetter 35 = .ok (.ireturn, 1) := by decide +kernel
theorem dX3_greatestHours_0 : decode cX3_greatestHours 0 = .ok (.iconst 0, 1) := by decide +kernel
theorem dX3_greatestHours_1 : decode cX3_greatestHours 1 = .ok (.istore_n 2, 1) := by decide +kernel
theorem dX3_greatestHours_2 : decode cX3_greatestHours 2 = .ok (.iconst 0, 1) := by decide +kernel
theorem dX3_greatestHours_3 : decode cX3_greatestHours 3 = .ok (.istore_n 3, 1) := by decide +kernel
theorem dX3_greatestHours_4 : decode cX3_greatestHours 4 = .ok (.iload_n 3, 1) := by decide +kernel
theorem dX3_greatestHours_5 : decode cX3_greatestHours 5 = .ok (.iload_n 1, 1) := by decide +kernel
theorem dX3_greatestHours_6 : decode cX3_greatestHours 6 = .ok (.if_icmp .ge 32, 3) := by decide +kernel
theorem dX3_greatestHours_9 : decode cX3_greatestHours 9 = .ok (.aload_n 0, 1) := by decide +kernel
theorem dX3_greatestHours_10 : decode cX3_greatestHours 10 = .ok (.getfield 9, 3) := by decide +kernel
theorem dX3_greatestHours_13 : decode cX3_greatestHours 13 = .ok (.iload_n 3, 1) := by decide +kernel
theorem dX3_greatestHours_14 : decode cX3_greatestHours 14 = .ok (.iaload, 1) := by decide +kernel
theorem dX3_greatestHours_15 : decode cX3_greatestHours 15 = .ok (.iconst (-1), 1) := by decide +kernel
theorem dX3_greatestHours_16 : decode cX3_greatestHours 16 = .ok (.if_icmp .ne 5, 3) := by decide +kernel
theorem dX3_greatestHours_19 : decode cX3_greatestHours 19 = .ok (.iconst (-1), 1) := by decide +kernel
theorem dX3_greatestHours_20 : decode cX3_greatestHours 20 = .ok (.ireturn, 1) := by decide +kernel
theorem dX3_greatestHours_21 : decode cX3_greatestHours 21 = .ok (.iload_n 2, 1) := by decide +kernel
theorem dX3_greatestHours_22 : decode cX3_greatestHours 22 = .ok (.aload_n 0, 1) := by decide +kernel
theorem dX3_greatestHours_23 : decode cX3_greatestHours 23 = .ok (.getfield 9, 3) := by decide +kernel
theorem dX3_greatestHours_26 : decode cX3_greatestHours 26 = .ok (.iload_n 3, 1) := by decide +kernel
theorem dX3_greatestHours_27 : decode cX3_greatestHours 27 = .ok (.iaload, 1) := by decide +kernel
theorem dX3_greatestHours_28 : decode cX3_greatestHours 28 = .ok (.invokestatic 46, 3) := by decide +kernel
theorem dX3_greatestHours_31 : decode cX3_greatestHours 31 = .ok (.istore_n 2, 1) := by decide +kernel
theorem dX3_greatestHours_32 : decode cX3_greatestHours 32 = .ok (.iinc 3 1, 3) := by decide +kernel
theorem dX3_greatestHours_35 : decode cX3_greatestHours 35 = .ok (.goto (-31), 3) := by decide +kernel
theorem dX3_greatestHours_38 : decode cX3_greatestHours 38 = .ok (.iload_n 2, 1) := by decide +kernel
theorem dX3_greatestHours_39 : decode cX3_greatestHours 39 = .ok (.ireturn, 1) := by decide +kernel
theorem dX3_leadBelow_0 : decode cX3_leadBelow 0 = .ok (.iconst 0, 1) := by decide +kernel
theorem dX3_leadBelow_1 : decode cX3_leadBelow 1 = .ok (.istore_n 2, 1) := by decide +kernel
theorem dX3_leadBelow_2 : decode cX3_leadBelow 2 = .ok (.iload_n 2, 1) := by decide +kernel
theorem dX3_leadBelow_3 : decode cX3_leadBelow 3 = .ok (.iload_n 1, 1) := by decide +kernel
theorem dX3_leadBelow_4 : decode cX3_leadBelow 4 = .ok (.if_icmp .ge 21, 3) := by decide +kernel
theorem dX3_leadBelow_7 : decode cX3_leadBelow 7 = .ok (.aload_n 0, 1) := by decide +kernel
theorem dX3_leadBelow_8 : decode cX3_leadBelow 8 = .ok (.getfield 9, 3) := by decide +kernel
theorem dX3_leadBelow_11 : decode cX3_leadBelow 11 = .ok (.iload_n 2, 1) := by decide +kernel
theorem dX3_leadBelow_12 : decode cX3_leadBelow 12 = .ok (.iaload, 1) := by decide +kernel
theorem dX3_leadBelow_13 : decode cX3_leadBelow 13 = .ok (.iconst (-1), 1) := by decide +kernel
theorem dX3_leadBelow_14 : decode cX3_leadBelow 14 = .ok (.if_icmp .eq 5, 3) := by decide +kernel
theorem dX3_leadBelow_17 : decode cX3_leadBelow 17 = .ok (.iconst 1, 1) := by decide +kernel
theorem dX3_leadBelow_18 : decode cX3_leadBelow 18 = .ok (.ireturn, 1) := by decide +kernel
theorem dX3_leadBelow_19 : decode cX3_leadBelow 19 = .ok (.iinc 2 1, 3) := by decide +kernel
theorem dX3_leadBelow_22 : decode cX3_leadBelow 22 = .ok (.goto (-20), 3) := by decide +kernel
theorem dX3_leadBelow_25 : decode cX3_leadBelow 25 = .ok (.iconst 0, 1) := by decide +kernel
theorem dX3_leadBelow_26 : decode cX3_leadBelow 26 = .ok (.ireturn, 1) := by decide +kernel
theorem dX4_init_0 : decode cX4_init 0 = .ok (.aload_n 0, 1) := by decide +kernel
theorem dX4_init_1 : decode cX4_init 1 = .ok (.invokespecial 1, 3) := by decide +kernel
theorem dX4_init_4 : decode cX4_init 4 = .ok (.aload_n 0, 1) := by decide +kernel
theorem dX4_init_5 : decode cX4_init 5 = .ok (.new 7, 3) := by decide +kernel
theorem dX4_init_8 : decode cX4_init 8 = .ok (.dup, 1) := by decide +kernel
theorem dX4_init_9 : decode cX4_init 9 = .ok (.invokespecial 9, 3) := by decide +kernel
theorem dX4_init_12 : decode cX4_init 12 = .ok (.putfield 10, 3) := by decide +kernel
theorem dX4_init_15 : decode cX4_init 15 = .ok (.aload_n 0, 1) := by decide +kernel
theorem dX4_init_16 : decode cX4_init 16 = .ok (.new 16, 3) := by decide +kernel
theorem dX4_init_19 : decode cX4_init 19 = .ok (.dup, 1) := by decide +kernel
theorem dX4_init_20 : decode cX4_init 20 = .ok (.invokespecial 18, 3) := by decide +kernel
theorem dX4_init_23 : decode cX4_init 23 = .ok (.putfield 19, 3) := by decide +kernel
theorem dX4_init_26 : decode cX4_init 26 = .ok (.aload_n 0, 1) := by decide +kernel
theorem dX4_init_27 : decode cX4_init 27 = .ok (.bipush 8, 2) := by decide +kernel
theorem dX4_init_29 : decode cX4_init 29 = .ok (.anewarray 23, 3) := by decide +kernel
theorem dX4_init_32 : decode cX4_init 32 = .ok (.putfield 25, 3) := by decide +kernel
theorem dX4_init_35 : decode cX4_init 35 = .ok (.aload_n 0, 1) := by decide +kernel
theorem dX4_init_36 : decode cX4_init 36 = .ok (.new 23, 3) := by decide +kernel
theorem dX4_init_39 : decode cX4_init 39 = .ok (.dup, 1) := by decide +kernel
theorem dX4_init_40 : decode cX4_init 40 = .ok (.invokespecial 29, 3) := by decide +kernel
theorem dX4_init_43 : decode cX4_init 43 = .ok (.putfield 30, 3) := by decide +kernel
theorem dX4_init_46 : decode cX4_init 46 = .ok (.aload_n 0, 1) := by decide +kernel
theorem dX4_init_47 : decode cX4_init 47 = .ok (.iconst 0, 1) := by decide +kernel
theorem dX4_init_48 : decode cX4_init 48 = .ok (.putfield 34, 3) := by decide +kernel
theorem dX4_init_51 : decode cX4_init 51 = .ok (.aload_n 0, 1) := by decide +kernel
theorem dX4_init_52 : decode cX4_init 52 = .ok (.iconst 0, 1) := by decide +kernel
theorem dX4_init_53 : decode cX4_init 53 = .ok (.putfield 38, 3) := by decide +kernel
theorem dX4_init_56 : decode cX4_init 56 = .ok (.iconst 0, 1) := by decide +kernel
theorem dX4_init_57 : decode cX4_init 57 = .ok (.istore_n 1, 1) := by decide +kernel
theorem dX4_init_58 : decode cX4_init 58 = .ok (.iload_n 1, 1) := by decide +kernel
theorem dX4_init_59 : decode cX4_init 59 = .ok (.bipush 8, 2) := by decide +kernel
theorem dX4_init_61 : decode cX4_init 61 = .ok (.if_icmp .ge 22, 3) := by decide +kernel
theorem dX4_init_64 : decode cX4_init 64 = .ok (.aload_n 0, 1) := by decide +kernel
theorem dX4_init_65 : decode cX4_init 65 = .ok (.getfield 25, 3) := by decide +kernel
theorem dX4_init_68 : decode cX4_init 68 = .ok (.iload_n 1, 1) := by decide +kernel
theorem dX4_init_69 : decode cX4_init 69 = .ok (.new 23, 3) := by decide +kernel
theorem dX4_init_72 : decode cX4_init 72 = .ok (.dup, 1) := by decide +kernel
theorem dX4_init_73 : decode cX4_init 73 = .ok (.invokespecial 29, 3) := by decide +kernel
theorem dX4_init_76 : decode cX4_init 76 = .ok (.aastore, 1) := by decide +kernel
theorem dX4_init_77 : decode cX4_init 77 = .ok (.iinc 1 1, 3) := by decide +kernel
theorem dX4_init_80 : decode cX4_init 80 = .ok (.goto (-22), 3) := by decide +kernel
theorem dX4_init_83 : decode cX4_init 83 = .ok (.return_, 1) := by decide +kernel
theorem dX4_build_0 : decode cX4_build 0 = .ok (.iload_n 1, 1) := by decide +kernel
theorem dX4_build_1 : decode cX4_build 1 = .ok (.iconst 2, 1) := by decide +kernel
theorem dX4_build_2 : decode cX4_build 2 = .ok (.bipush 12, 2) := by decide +kernel
theorem dX4_build_4 : decode cX4_build 4 = .ok (.invokestatic 41, 3) := by decide +kernel
theorem dX4_build_7 : decode cX4_build 7 = .ok (.aload_n 0, 1) := by decide +kernel
theorem dX4_build_8 : decode cX4_build 8 = .ok (.getfield 10, 3) := by decide +kernel
theorem dX4_build_11 : decode cX4_build 11 = .ok (.iload_n 1, 1) := by decide +kernel
theorem dX4_build_12 : decode cX4_build 12 = .ok (.invokevirtual 45, 3) := by decide +kernel
theorem dX4_build_15 : decode cX4_build 15 = .ok (.aload_n 0, 1) := by decide +kernel
theorem dX4_build_16 : decode cX4_build 16 = .ok (.iconst 0, 1) := by decide +kernel
theorem dX4_build_17 : decode cX4_build 17 = .ok (.putfield 34, 3) := by decide +kernel
theorem dX4_build_20 : decode cX4_build 20 = .ok (.iload_n 1, 1) := by decide +kernel
theorem dX4_build_21 : decode cX4_build 21 = .ok (.iconst 1, 1) := by decide +kernel
theorem dX4_build_22 : decode cX4_build 22 = .ok (.isub, 1) := by decide +kernel
theorem dX4_build_23 : decode cX4_build 23 = .ok (.ireturn, 1) := by decide +kernel
theorem dX4_setStay_0 : decode cX4_setStay 0 = .ok (.aload_n 0, 1) := by decide +kernel
theorem dX4_setStay_1 : decode cX4_setStay 1 = .ok (.iload_n 1, 1) := by decide +kernel
theorem dX4_setStay_2 : decode cX4_setStay 2 = .ok (.invokevirtual 49, 3) := by decide +kernel
theorem dX4_setStay_5 : decode cX4_setStay 5 = .ok (.iload_n 2, 1) := by decide +kernel
theorem dX4_setStay_6 : decode cX4_setStay 6 = .ok (.iconst 0, 1) := by decide +kernel
theorem dX4_setStay_7 : decode cX4_setStay 7 = .ok (.bipush 9, 2) := by decide +kernel
theorem dX4_setStay_9 : decode cX4_setStay 9 = .ok (.invokestatic 41, 3) := by decide +kernel
theorem dX4_setStay_12 : decode cX4_setStay 12 = .ok (.aload_n 0, 1) := by decide +kernel
theorem dX4_setStay_13 : decode cX4_setStay 13 = .ok (.getfield 10, 3) := by decide +kernel
theorem dX4_setStay_16 : decode cX4_setStay 16 = .ok (.getfield 52, 3) := by decide +kernel
theorem dX4_setStay_19 : decode cX4_setStay 19 = .ok (.iload_n 1, 1) := by decide +kernel
theorem dX4_setStay_20 : decode cX4_setStay 20 = .ok (.iaload, 1) := by decide +kernel
theorem dX4_setStay_21 : decode cX4_setStay 21 = .ok (.istore_n 3, 1) := by decide +kernel
theorem dX4_setStay_22 : decode cX4_setStay 22 = .ok (.aload_n 0, 1) := by decide +kernel
theorem dX4_setStay_23 : decode cX4_setStay 23 = .ok (.getfield 10, 3) := by decide +kernel
theorem dX4_setStay_26 : decode cX4_setStay 26 = .ok (.getfield 52, 3) := by decide +kernel
theorem dX4_setStay_29 : decode cX4_setStay 29 = .ok (.iload_n 1, 1) := by decide +kernel
theorem dX4_setStay_30 : decode cX4_setStay 30 = .ok (.iload_n 2, 1) := by decide +kernel
theorem dX4_setStay_31 : decode cX4_setStay 31 = .ok (.iastore, 1) := by decide +kernel
theorem dX4_setStay_32 : decode cX4_setStay 32 = .ok (.iload_n 3, 1) := by decide +kernel
theorem dX4_setStay_33 : decode cX4_setStay 33 = .ok (.ireturn, 1) := by decide +kernel
theorem dX4_setHeads_0 : decode cX4_setHeads 0 = .ok (.aload_n 0, 1) := by decide +kernel
theorem dX4_setHeads_1 : decode cX4_setHeads 1 = .ok (.iload_n 1, 1) := by decide +kernel
theorem dX4_setHeads_2 : decode cX4_setHeads 2 = .ok (.invokevirtual 49, 3) := by decide +kernel
theorem dX4_setHeads_5 : decode cX4_setHeads 5 = .ok (.iload_n 2, 1) := by decide +kernel
theorem dX4_setHeads_6 : decode cX4_setHeads 6 = .ok (.iconst 0, 1) := by decide +kernel
theorem dX4_setHeads_7 : decode cX4_setHeads 7 = .ok (.bipush 99, 2) := by decide +kernel
theorem dX4_setHeads_9 : decode cX4_setHeads 9 = .ok (.invokestatic 41, 3) := by decide +kernel
theorem dX4_setHeads_12 : decode cX4_setHeads 12 = .ok (.aload_n 0, 1) := by decide +kernel
theorem dX4_setHeads_13 : decode cX4_setHeads 13 = .ok (.getfield 10, 3) := by decide +kernel
theorem dX4_setHeads_16 : decode cX4_setHeads 16 = .ok (.getfield 56, 3) := by decide +kernel
theorem dX4_setHeads_19 : decode cX4_setHeads 19 = .ok (.iload_n 1, 1) := by decide +kernel
theorem dX4_setHeads_20 : decode cX4_setHeads 20 = .ok (.iaload, 1) := by decide +kernel
theorem dX4_setHeads_21 : decode cX4_setHeads 21 = .ok (.istore_n 3, 1) := by decide +kernel
theorem dX4_setHeads_22 : decode cX4_setHeads 22 = .ok (.aload_n 0, 1) := by decide +kernel
theorem dX4_setHeads_23 : decode cX4_setHeads 23 = .ok (.getfield 10, 3) := by decide +kernel
theorem dX4_setHeads_26 : decode cX4_setHeads 26 = .ok (.getfield 56, 3) := by decide +kernel
theorem dX4_setHeads_29 : decode cX4_setHeads 29 = .ok (.iload_n 1, 1) := by decide +kernel
theorem dX4_setHeads_30 : decode cX4_setHeads 30 = .ok (.iload_n 2, 1) := by decide +kernel
theorem dX4_setHeads_31 : decode cX4_setHeads 31 = .ok (.iastore, 1) := by decide +kernel
theorem dX4_setHeads_32 : decode cX4_setHeads 32 = .ok (.iload_n 3, 1) := by decide +kernel
theorem dX4_setHeads_33 : decode cX4_setHeads 33 = .ok (.ireturn, 1) := by decide +kernel
theorem dX4_setStairs_0 : decode cX4_setStairs 0 = .ok (.aload_n 0, 1) := by decide +kernel
theorem dX4_setStairs_1 : decode cX4_setStairs 1 = .ok (.iload_n 1, 1) := by decide +kernel
theorem dX4_setStairs_2 : decode cX4_setStairs 2 = .ok (.invokevirtual 59, 3) := by decide +kernel
theorem dX4_setStairs_5 : decode cX4_setStairs 5 = .ok (.iload_n 2, 1) := by decide +kernel
theorem dX4_setStairs_6 : decode cX4_setStairs 6 = .ok (.iconst 1, 1) := by decide +kernel
theorem dX4_setStairs_7 : decode cX4_setStairs 7 = .ok (.bipush 9, 2) := by decide +kernel
theorem dX4_setStairs_9 : decode cX4_setStairs 9 = .ok (.invokestatic 41, 3) := by decide +kernel
theorem dX4_setStairs_12 : decode cX4_setStairs 12 = .ok (.aload_n 0, 1) := by decide +kernel
theorem dX4_setStairs_13 : decode cX4_setStairs 13 = .ok (.getfield 10, 3) := by decide +kernel
theorem dX4_setStairs_16 : decode cX4_setStairs 16 = .ok (.getfield 62, 3) := by decide +kernel
theorem dX4_setStairs_19 : decode cX4_setStairs 19 = .ok (.iload_n 1, 1) := by decide +kernel
theorem dX4_setStairs_20 : decode cX4_setStairs 20 = .ok (.iaload, 1) := by decide +kernel
theorem dX4_setStairs_21 : decode cX4_setStairs 21 = .ok (.istore_n 3, 1) := by decide +kernel
theorem dX4_setStairs_22 : decode cX4_setStairs 22 = .ok (.aload_n 0, 1) := by decide +kernel
theorem dX4_setStairs_23 : decode cX4_setStairs 23 = .ok (.getfield 10, 3) := by decide +kernel
theorem dX4_setStairs_26 : decode cX4_setStairs 26 = .ok (.getfield 62, 3) := by decide +kernel
theorem dX4_setStairs_29 : decode cX4_setStairs 29 = .ok (.iload_n 1, 1) := by decide +kernel
theorem dX4_setStairs_30 : decode cX4_setStairs 30 = .ok (.iload_n 2, 1) := by decide +kernel
theorem dX4_setStairs_31 : decode cX4_setStairs 31 = .ok (.iastore, 1) := by decide +kernel
theorem dX4_setStairs_32 : decode cX4_setStairs 32 = .ok (.aload_n 0, 1) := by decide +kernel
theorem dX4_setStairs_33 : decode cX4_setStairs 33 = .ok (.getfield 10, 3) := by decide +kernel
theorem dX4_setStairs_36 : decode cX4_setStairs 36 = .ok (.invokevirtual 65, 3) := by decide +kernel
theorem dX4_setStairs_39 : decode cX4_setStairs 39 = .ok (.iload_n 3, 1) := by decide +kernel
theorem dX4_setStairs_40 : decode cX4_setStairs 40 = .ok (.ireturn, 1) := by decide +kernel
theorem dX4_turnStairs_0 : decode cX4_turnStairs 0 = .ok (.aload_n 0, 1) := by decide +kernel
theorem dX4_turnStairs_1 : decode cX4_turnStairs 1 = .ok (.iload_n 1, 1) := by decide +kernel
theorem dX4_turnStairs_2 : decode cX4_turnStairs 2 = .ok (.invokevirtual 59, 3) := by decide +kernel
theorem dX4_turnStairs_5 : decode cX4_turnStairs 5 = .ok (.aload_n 0, 1) := by decide +kernel
theorem dX4_turnStairs_6 : decode cX4_turnStairs 6 = .ok (.getfield 10, 3) := by decide +kernel
theorem dX4_turnStairs_9 : decode cX4_turnStairs 9 = .ok (.iload_n 1, 1) := by decide +kernel
theorem dX4_turnStairs_10 : decode cX4_turnStairs 10 = .ok (.aload_n 0, 1) := by decide +kernel
theorem dX4_turnStairs_11 : decode cX4_turnStairs 11 = .ok (.getfield 10, 3) := by decide +kernel
theorem dX4_turnStairs_14 : decode cX4_turnStairs 14 = .ok (.getfield 68, 3) := by decide +kernel
theorem dX4_turnStairs_17 : decode cX4_turnStairs 17 = .ok (.iload_n 1, 1) := by decide +kernel
theorem dX4_turnStairs_18 : decode cX4_turnStairs 18 = .ok (.baload, 1) := by decide +kernel
theorem dX4_turnStairs_19 : decode cX4_turnStairs 19 = .ok (.ifCond .ne 7, 3) := by decide +kernel
theorem dX4_turnStairs_22 : decode cX4_turnStairs 22 = .ok (.iconst 1, 1) := by decide +kernel
theorem dX4_turnStairs_23 : decode cX4_turnStairs 23 = .ok (.goto 4, 3) := by decide +kernel
theorem dX4_turnStairs_26 : decode cX4_turnStairs 26 = .ok (.iconst 0, 1) := by decide +kernel
theorem dX4_turnStairs_27 : decode cX4_turnStairs 27 = .ok (.invokevirtual 72, 3) := by decide +kernel
theorem dX4_turnStairs_30 : decode cX4_turnStairs 30 = .ok (.aload_n 0, 1) := by decide +kernel
theorem dX4_turnStairs_31 : decode cX4_turnStairs 31 = .ok (.getfield 10, 3) := by decide +kernel
theorem dX4_turnStairs_34 : decode cX4_turnStairs 34 = .ok (.getfield 68, 3) := by decide +kernel
theorem dX4_turnStairs_37 : decode cX4_turnStairs 37 = .ok (.iload_n 1, 1) := by decide +kernel
theorem dX4_turnStairs_38 : decode cX4_turnStairs 38 = .ok (.baload, 1) := by decide +kernel
theorem dX4_turnStairs_39 : decode cX4_turnStairs 39 = .ok (.ireturn, 1) := by decide +kernel
theorem dX4_addLift_0 : decode cX4_addLift 0 = .ok (.aload_n 0, 1) := by decide +kernel
theorem dX4_addLift_1 : decode cX4_addLift 1 = .ok (.iload_n 1, 1) := by decide +kernel
theorem dX4_addLift_2 : decode cX4_addLift 2 = .ok (.invokevirtual 49, 3) := by decide +kernel
theorem dX4_addLift_5 : decode cX4_addLift 5 = .ok (.aload_n 0, 1) := by decide +kernel
theorem dX4_addLift_6 : decode cX4_addLift 6 = .ok (.iload_n 2, 1) := by decide +kernel
theorem dX4_addLift_7 : decode cX4_addLift 7 = .ok (.invokevirtual 49, 3) := by decide +kernel
theorem dX4_addLift_10 : decode cX4_addLift 10 = .ok (.iload_n 3, 1) := by decide +kernel
theorem dX4_addLift_11 : decode cX4_addLift 11 = .ok (.iconst 1, 1) := by decide +kernel
theorem dX4_addLift_12 : decode cX4_addLift 12 = .ok (.iload_n 2, 1) := by decide +kernel
theorem dX4_addLift_13 : decode cX4_addLift 13 = .ok (.iload_n 1, 1) := by decide +kernel
theorem dX4_addLift_14 : decode cX4_addLift 14 = .ok (.isub, 1) := by decide +kernel
theorem dX4_addLift_15 : decode cX4_addLift 15 = .ok (.invokestatic 41, 3) := by decide +kernel
theorem dX4_addLift_18 : decode cX4_addLift 18 = .ok (.iload 4, 2) := by decide +kernel
theorem dX4_addLift_20 : decode cX4_addLift 20 = .ok (.iconst 1, 1) := by decide +kernel
theorem dX4_addLift_21 : decode cX4_addLift 21 = .ok (.bipush 9, 2) := by decide +kernel
theorem dX4_addLift_23 : decode cX4_addLift 23 = .ok (.invokestatic 41, 3) := by decide +kernel
theorem dX4_addLift_26 : decode cX4_addLift 26 = .ok (.aload_n 0, 1) := by decide +kernel
theorem dX4_addLift_27 : decode cX4_addLift 27 = .ok (.getfield 10, 3) := by decide +kernel
theorem dX4_addLift_30 : decode cX4_addLift 30 = .ok (.getfield 76, 3) := by decide +kernel
theorem dX4_addLift_33 : decode cX4_addLift 33 = .ok (.iconst 4, 1) := by decide +kernel
theorem dX4_addLift_34 : decode cX4_addLift 34 = .ok (.if_icmp .lt 13, 3) := by decide +kernel
theorem dX4_addLift_37 : decode cX4_addLift 37 = .ok (.new 79, 3) := by decide +kernel
theorem dX4_addLift_40 : decode cX4_addLift 40 = .ok (.dup, 1) := by decide +kernel
theorem dX4_addLift_41 : decode cX4_addLift 41 = .ok (.ldc 81, 2) := by decide +kernel
theorem dX4_addLift_43 : decode cX4_addLift 43 = .ok (.invokespecial 83, 3) := by decide +kernel
theorem dX4_addLift_46 : decode cX4_addLift 46 = .ok (.athrow, 1) := by decide +kernel
theorem dX4_addLift_47 : decode cX4_addLift 47 = .ok (.aload_n 0, 1) := by decide +kernel
theorem dX4_addLift_48 : decode cX4_addLift 48 = .ok (.getfield 10, 3) := by decide +kernel
theorem dX4_addLift_51 : decode cX4_addLift 51 = .ok (.iload_n 1, 1) := by decide +kernel
theorem dX4_addLift_52 : decode cX4_addLift 52 = .ok (.iload_n 2, 1) := by decide +kernel
theorem dX4_addLift_53 : decode cX4_addLift 53 = .ok (.iload_n 3, 1) := by decide +kernel
theorem dX4_addLift_54 : decode cX4_addLift 54 = .ok (.iload 4, 2) := by decide +kernel
theorem dX4_addLift_56 : decode cX4_addLift 56 = .ok (.invokevirtual 86, 3) := by decide +kernel
theorem dX4_addLift_59 : decode cX4_addLift 59 = .ok (.ireturn, 1) := by decide +kernel
theorem dX4_turnLift_0 : decode cX4_turnLift 0 = .ok (.aload_n 0, 1) := by decide +kernel
theorem dX4_turnLift_1 : decode cX4_turnLift 1 = .ok (.iload_n 1, 1) := by decide +kernel
theorem dX4_turnLift_2 : decode cX4_turnLift 2 = .ok (.invokevirtual 90, 3) := by decide +kernel
theorem dX4_turnLift_5 : decode cX4_turnLift 5 = .ok (.aload_n 0, 1) := by decide +kernel
theorem dX4_turnLift_6 : decode cX4_turnLift 6 = .ok (.getfield 10, 3) := by decide +kernel
theorem dX4_turnLift_9 : decode cX4_turnLift 9 = .ok (.iload_n 1, 1) := by decide +kernel
theorem dX4_turnLift_10 : decode cX4_turnLift 10 = .ok (.aload_n 0, 1) := by decide +kernel
theorem dX4_turnLift_11 : decode cX4_turnLift 11 = .ok (.getfield 10, 3) := by decide +kernel
theorem dX4_turnLift_14 : decode cX4_turnLift 14 = .ok (.getfield 93, 3) := by decide +kernel
theorem dX4_turnLift_17 : decode cX4_turnLift 17 = .ok (.iload_n 1, 1) := by decide +kernel
theorem dX4_turnLift_18 : decode cX4_turnLift 18 = .ok (.aaload, 1) := by decide +kernel
theorem dX4_turnLift_19 : decode cX4_turnLift 19 = .ok (.getfield 97, 3) := by decide +kernel
theorem dX4_turnLift_22 : decode cX4_turnLift 22 = .ok (.ifCond .ne 7, 3) := by decide +kernel
theorem dX4_turnLift_25 : decode cX4_turnLift 25 = .ok (.iconst 1, 1) := by decide +kernel
theorem dX4_turnLift_26 : decode cX4_turnLift 26 = .ok (.goto 4, 3) := by decide +kernel
theorem dX4_turnLift_29 : decode cX4_turnLift 29 = .ok (.iconst 0, 1) := by decide +kernel
theorem dX4_turnLift_30 : decode cX4_turnLift 30 = .ok (.invokevirtual 103, 3) := by decide +kernel
theorem dX4_turnLift_33 : decode cX4_turnLift 33 = .ok (.aload_n 0, 1) := by decide +kernel
theorem dX4_turnLift_34 : decode cX4_turnLift 34 = .ok (.getfield 10, 3) := by decide +kernel
theorem dX4_turnLift_37 : decode cX4_turnLift 37 = .ok (.getfield 93, 3) := by decide +kernel
theorem dX4_turnLift_40 : decode cX4_turnLift 40 = .ok (.iload_n 1, 1) := by decide +kernel
theorem dX4_turnLift_41 : decode cX4_turnLift 41 = .ok (.aaload, 1) := by decide +kernel
theorem dX4_turnLift_42 : decode cX4_turnLift 42 = .ok (.getfield 97, 3) := by decide +kernel
theorem dX4_turnLift_45 : decode cX4_turnLift 45 = .ok (.ireturn, 1) := by decide +kernel
theorem dX4_startRumour_0 : decode cX4_startRumour 0 = .ok (.aload_n 0, 1) := by decide +kernel
theorem dX4_startRumour_1 : decode cX4_startRumour 1 = .ok (.iload_n 1, 1) := by decide +kernel
theorem dX4_startRumour_2 : decode cX4_startRumour 2 = .ok (.invokevirtual 49, 3) := by decide +kernel
theorem dX4_startRumour_5 : decode cX4_startRumour 5 = .ok (.iload_n 2, 1) := by decide +kernel
theorem dX4_startRumour_6 : decode cX4_startRumour 6 = .ok (.iconst 1, 1) := by decide +kernel
theorem dX4_startRumour_7 : decode cX4_startRumour 7 = .ok (.bipush 20, 2) := by decide +kernel
theorem dX4_startRumour_9 : decode cX4_startRumour 9 = .ok (.invokestatic 41, 3) := by decide +kernel
theorem dX4_startRumour_12 : decode cX4_startRumour 12 = .ok (.aload_n 0, 1) := by decide +kernel
theorem dX4_startRumour_13 : decode cX4_startRumour 13 = .ok (.getfield 34, 3) := by decide +kernel
theorem dX4_startRumour_16 : decode cX4_startRumour 16 = .ok (.bipush 8, 2) := by decide +kernel
theorem dX4_startRumour_18 : decode cX4_startRumour 18 = .ok (.if_icmp .lt 13, 3) := by decide +kernel
theorem dX4_startRumour_21 : decode cX4_startRumour 21 = .ok (.new 79, 3) := by decide +kernel
theorem dX4_startRumour_24 : decode cX4_startRumour 24 = .ok (.dup, 1) := by decide +kernel
theorem dX4_startRumour_25 : decode cX4_startRumour 25 = .ok (.ldc 106, 2) := by decide +kernel
theorem dX4_startRumour_27 : decode cX4_startRumour 27 = .ok (.invokespecial 83, 3) := by decide +kernel
theorem dX4_startRumour_30 : decode cX4_startRumour 30 = .ok (.athrow, 1) := by decide +kernel
theorem dX4_startRumour_31 : decode cX4_startRumour 31 = .ok (.aload_n 0, 1) := by decide +kernel
theorem dX4_startRumour_32 : decode cX4_startRumour 32 = .ok (.getfield 34, 3) := by decide +kernel
theorem dX4_startRumour_35 : decode cX4_startRumour 35 = .ok (.istore_n 3, 1) := by decide +kernel
theorem dX4_startRumour_36 : decode cX4_startRumour 36 = .ok (.aload_n 0, 1) := by decide +kernel
theorem dX4_startRumour_37 : decode cX4_startRumour 37 = .ok (.getfield 25, 3) := by decide +kernel
theorem dX4_startRumour_40 : decode cX4_startRumour 40 = .ok (.iload_n 3, 1) := by decide +kernel
theorem dX4_startRumour_41 : decode cX4_startRumour 41 = .ok (.aaload, 1) := by decide +kernel
theorem dX4_startRumour_42 : decode cX4_startRumour 42 = .ok (.aload_n 0, 1) := by decide +kernel
theorem dX4_startRumour_43 : decode cX4_startRumour 43 = .ok (.getfield 10, 3) := by decide +kernel
theorem dX4_startRumour_46 : decode cX4_startRumour 46 = .ok (.iload_n 1, 1) := by decide +kernel
theorem dX4_startRumour_47 : decode cX4_startRumour 47 = .ok (.iload_n 2, 1) := by decide +kernel
theorem dX4_startRumour_48 : decode cX4_startRumour 48 = .ok (.aload_n 0, 1) := by decide +kernel
theorem dX4_startRumour_49 : decode cX4_startRumour 49 = .ok (.getfield 38, 3) := by decide +kernel
theorem dX4_startRumour_52 : decode cX4_startRumour 52 = .ok (.invokevirtual 108, 3) := by decide +kernel
theorem dX4_startRumour_55 : decode cX4_startRumour 55 = .ok (.aload_n 0, 1) := by decide +kernel
theorem dX4_startRumour_56 : decode cX4_startRumour 56 = .ok (.iload_n 3, 1) := by decide +kernel
theorem dX4_startRumour_57 : decode cX4_startRumour 57 = .ok (.iconst 1, 1) := by decide +kernel
theorem dX4_startRumour_58 : decode cX4_startRumour 58 = .ok (.iadd, 1) := by decide +kernel
theorem dX4_startRumour_59 : decode cX4_startRumour 59 = .ok (.putfield 34, 3) := by decide +kernel
theorem dX4_startRumour_62 : decode cX4_startRumour 62 = .ok (.iload_n 3, 1) := by decide +kernel
theorem dX4_startRumour_63 : decode cX4_startRumour 63 = .ok (.ireturn, 1) := by decide +kernel
theorem dX4_startDenial_0 : decode cX4_startDenial 0 = .ok (.aload_n 0, 1) := by decide +kernel
theorem dX4_startDenial_1 : decode cX4_startDenial 1 = .ok (.iload_n 1, 1) := by decide +kernel
theorem dX4_startDenial_2 : decode cX4_startDenial 2 = .ok (.invokevirtual 112, 3) := by decide +kernel
theorem dX4_startDenial_5 : decode cX4_startDenial 5 = .ok (.aload_n 0, 1) := by decide +kernel
theorem dX4_startDenial_6 : decode cX4_startDenial 6 = .ok (.iload_n 2, 1) := by decide +kernel
theorem dX4_startDenial_7 : decode cX4_startDenial 7 = .ok (.invokevirtual 49, 3) := by decide +kernel
theorem dX4_startDenial_10 : decode cX4_startDenial 10 = .ok (.aload_n 0, 1) := by decide +kernel
theorem dX4_startDenial_11 : decode cX4_startDenial 11 = .ok (.getfield 25, 3) := by decide +kernel
theorem dX4_startDenial_14 : decode cX4_startDenial 14 = .ok (.iload_n 1, 1) := by decide +kernel
theorem dX4_startDenial_15 : decode cX4_startDenial 15 = .ok (.aaload, 1) := by decide +kernel
theorem dX4_startDenial_16 : decode cX4_startDenial 16 = .ok (.astore_n 3, 1) := by decide +kernel
theorem dX4_startDenial_17 : decode cX4_startDenial 17 = .ok (.aload_n 3, 1) := by decide +kernel
theorem dX4_startDenial_18 : decode cX4_startDenial 18 = .ok (.getfield 115, 3) := by decide +kernel
theorem dX4_startDenial_21 : decode cX4_startDenial 21 = .ok (.iload_n 2, 1) := by decide +kernel
theorem dX4_startDenial_22 : decode cX4_startDenial 22 = .ok (.iaload, 1) := by decide +kernel
theorem dX4_startDenial_23 : decode cX4_startDenial 23 = .ok (.iconst 2, 1) := by decide +kernel
theorem dX4_startDenial_24 : decode cX4_startDenial 24 = .ok (.if_icmp .ne 13, 3) := by decide +kernel
theorem dX4_startDenial_27 : decode cX4_startDenial 27 = .ok (.new 79, 3) := by decide +kernel
theorem dX4_startDenial_30 : decode cX4_startDenial 30 = .ok (.dup, 1) := by decide +kernel
theorem dX4_startDenial_31 : decode cX4_startDenial 31 = .ok (.ldc 118, 2) := by decide +kernel
theorem dX4_startDenial_33 : decode cX4_startDenial 33 = .ok (.invokespecial 83, 3) := by decide +kernel
theorem dX4_startDenial_36 : decode cX4_startDenial 36 = .ok (.athrow, 1) := by decide +kernel
theorem dX4_startDenial_37 : decode cX4_startDenial 37 = .ok (.aload_n 3, 1) := by decide +kernel
theorem dX4_startDenial_38 : decode cX4_startDenial 38 = .ok (.getfield 115, 3) := by decide +kernel
theorem dX4_startDenial_41 : decode cX4_startDenial 41 = .ok (.iload_n 2, 1) := by decide +kernel
theorem dX4_startDenial_42 : decode cX4_startDenial 42 = .ok (.iaload, 1) := by decide +kernel
theorem dX4_startDenial_43 : decode cX4_startDenial 43 = .ok (.iconst 1, 1) := by decide +kernel
theorem dX4_startDenial_44 : decode cX4_startDenial 44 = .ok (.if_icmp .ne 15, 3) := by decide +kernel
theorem dX4_startDenial_47 : decode cX4_startDenial 47 = .ok (.aload_n 0, 1) := by decide +kernel
theorem dX4_startDenial_48 : decode cX4_startDenial 48 = .ok (.getfield 10, 3) := by decide +kernel
theorem dX4_startDenial_51 : decode cX4_startDenial 51 = .ok (.getfield 56, 3) := by decide +kernel
theorem dX4_startDenial_54 : decode cX4_startDenial 54 = .ok (.iload_n 2, 1) := by decide +kernel
theorem dX4_startDenial_55 : decode cX4_startDenial 55 = .ok (.iaload, 1) := by decide +kernel
theorem dX4_startDenial_56 : decode cX4_startDenial 56 = .ok (.goto 4, 3) := by decide +kernel
theorem dX4_startDenial_59 : decode cX4_startDenial 59 = .ok (.iconst 0, 1) := by decide +kernel
theorem dX4_startDenial_60 : decode cX4_startDenial 60 = .ok (.istore 4, 2) := by decide +kernel
theorem dX4_startDenial_62 : decode cX4_startDenial 62 = .ok (.aload_n 3, 1) := by decide +kernel
theorem dX4_startDenial_63 : decode cX4_startDenial 63 = .ok (.aload_n 0, 1) := by decide +kernel
theorem dX4_startDenial_64 : decode cX4_startDenial 64 = .ok (.getfield 10, 3) := by decide +kernel
theorem dX4_startDenial_67 : decode cX4_startDenial 67 = .ok (.iload_n 2, 1) := by decide +kernel
theorem dX4_startDenial_68 : decode cX4_startDenial 68 = .ok (.aload_n 0, 1) := by decide +kernel
theorem dX4_startDenial_69 : decode cX4_startDenial 69 = .ok (.getfield 38, 3) := by decide +kernel
theorem dX4_startDenial_72 : decode cX4_startDenial 72 = .ok (.invokevirtual 120, 3) := by decide +kernel
theorem dX4_startDenial_75 : decode cX4_startDenial 75 = .ok (.iload 4, 2) := by decide +kernel
theorem dX4_startDenial_77 : decode cX4_startDenial 77 = .ok (.ireturn, 1) := by decide +kernel
theorem dX4_passHours_0 : decode cX4_passHours 0 = .ok (.iload_n 1, 1) := by decide +kernel
theorem dX4_passHours_1 : decode cX4_passHours 1 = .ok (.iconst 1, 1) := by decide +kernel
theorem dX4_passHours_2 : decode cX4_passHours 2 = .ok (.bipush 60, 2) := by decide +kernel
theorem dX4_passHours_4 : decode cX4_passHours 4 = .ok (.invokestatic 41, 3) := by decide +kernel
theorem dX4_passHours_7 : decode cX4_passHours 7 = .ok (.iconst 0, 1) := by decide +kernel
theorem dX4_passHours_8 : decode cX4_passHours 8 = .ok (.istore_n 2, 1) := by decide +kernel
theorem dX4_passHours_9 : decode cX4_passHours 9 = .ok (.iconst 0, 1) := by decide +kernel
theorem dX4_passHours_10 : decode cX4_passHours 10 = .ok (.istore_n 3, 1) := by decide +kernel
theorem dX4_passHours_11 : decode cX4_passHours 11 = .ok (.iload_n 3, 1) := by decide +kernel
theorem dX4_passHours_12 : decode cX4_passHours 12 = .ok (.iload_n 1, 1) := by decide +kernel
theorem dX4_passHours_13 : decode cX4_passHours 13 = .ok (.if_icmp .ge 58, 3) := by decide +kernel
theorem dX4_passHours_16 : decode cX4_passHours 16 = .ok (.iconst 0, 1) := by decide +kernel
theorem dX4_passHours_17 : decode cX4_passHours 17 = .ok (.istore 4, 2) := by decide +kernel
theorem dX4_passHours_19 : decode cX4_passHours 19 = .ok (.iload 4, 2) := by decide +kernel
theorem dX4_passHours_21 : decode cX4_passHours 21 = .ok (.aload_n 0, 1) := by decide +kernel
theorem dX4_passHours_22 : decode cX4_passHours 22 = .ok (.getfield 34, 3) := by decide +kernel
theorem dX4_passHours_25 : decode cX4_passHours 25 = .ok (.if_icmp .ge 30, 3) := by decide +kernel
theorem dX4_passHours_28 : decode cX4_passHours 28 = .ok (.iload_n 2, 1) := by decide +kernel
theorem dX4_passHours_29 : decode cX4_passHours 29 = .ok (.aload_n 0, 1) := by decide +kernel
theorem dX4_passHours_30 : decode cX4_passHours 30 = .ok (.getfield 25, 3) := by decide +kernel
theorem dX4_passHours_33 : decode cX4_passHours 33 = .ok (.iload 4, 2) := by decide +kernel
theorem dX4_passHours_35 : decode cX4_passHours 35 = .ok (.aaload, 1) := by decide +kernel
theorem dX4_passHours_36 : decode cX4_passHours 36 = .ok (.aload_n 0, 1) := by decide +kernel
theorem dX4_passHours_37 : decode cX4_passHours 37 = .ok (.getfield 10, 3) := by decide +kernel
theorem dX4_passHours_40 : decode cX4_passHours 40 = .ok (.aload_n 0, 1) := by decide +kernel
theorem dX4_passHours_41 : decode cX4_passHours 41 = .ok (.getfield 38, 3) := by decide +kernel
theorem dX4_passHours_44 : decode cX4_passHours 44 = .ok (.invokevirtual 124, 3) := by decide +kernel
theorem dX4_passHours_47 : decode cX4_passHours 47 = .ok (.iadd, 1) := by decide +kernel
theorem dX4_passHours_48 : decode cX4_passHours 48 = .ok (.istore_n 2, 1) := by decide +kernel
theorem dX4_passHours_49 : decode cX4_passHours 49 = .ok (.iinc 4 1, 3) := by decide +kernel
theorem dX4_passHours_52 : decode cX4_passHours 52 = .ok (.goto (-33), 3) := by decide +kernel
theorem dX4_passHours_55 : decode cX4_passHours 55 = .ok (.aload_n 0, 1) := by decide +kernel
theorem dX4_passHours_56 : decode cX4_passHours 56 = .ok (.dup, 1) := by decide +kernel
theorem dX4_passHours_57 : decode cX4_passHours 57 = .ok (.getfield 38, 3) := by decide +kernel
theorem dX4_passHours_60 : decode cX4_passHours 60 = .ok (.iconst 1, 1) := by decide +kernel
theorem dX4_passHours_61 : decode cX4_passHours 61 = .ok (.iadd, 1) := by decide +kernel
theorem dX4_passHours_62 : decode cX4_passHours 62 = .ok (.putfield 38, 3) := by decide +kernel
theorem dX4_passHours_65 : decode cX4_passHours 65 = .ok (.iinc 3 1, 3) := by decide +kernel
theorem dX4_passHours_68 : decode cX4_passHours 68 = .ok (.goto (-57), 3) := by decide +kernel
theorem dX4_passHours_71 : decode cX4_passHours 71 = .ok (.iload_n 2, 1) := by decide +kernel
theorem dX4_passHours_72 : decode cX4_passHours 72 = .ok (.ireturn, 1) := by decide +kernel
theorem dX4_floors_0 : decode cX4_floors 0 = .ok (.aload_n 0, 1) := by decide +kernel
theorem dX4_floors_1 : decode cX4_floors 1 = .ok (.getfield 10, 3) := by decide +kernel
theorem dX4_floors_4 : decode cX4_floors 4 = .ok (.getfield 128, 3) := by decide +kernel
theorem dX4_floors_7 : decode cX4_floors 7 = .ok (.ireturn, 1) := by decide +kernel
theorem dX4_hours_0 : decode cX4_hours 0 = .ok (.aload_n 0, 1) := by decide +kernel
theorem dX4_hours_1 : decode cX4_hours 1 = .ok (.getfield 38, 3) := by decide +kernel
theorem dX4_hours_4 : decode cX4_hours 4 = .ok (.ireturn, 1) := by decide +kernel
theorem dX4_lifts_0 : decode cX4_lifts 0 = .ok (.aload_n 0, 1) := by decide +kernel
theorem dX4_lifts_1 : decode cX4_lifts 1 = .ok (.getfield 10, 3) := by decide +kernel
theorem dX4_lifts_4 : decode cX4_lifts 4 = .ok (.getfield 76, 3) := by decide +kernel
theorem dX4_lifts_7 : decode cX4_lifts 7 = .ok (.ireturn, 1) := by decide +kernel
theorem dX4_rumours_0 : decode cX4_rumours 0 = .ok (.aload_n 0, 1) := by decide +kernel
theorem dX4_rumours_1 : decode cX4_rumours 1 = .ok (.getfield 34, 3) := by decide +kernel
theorem dX4_rumours_4 : decode cX4_rumours 4 = .ok (.ireturn, 1) := by decide +kernel
theorem dX4_headsOf_0 : decode cX4_headsOf 0 = .ok (.aload_n 0, 1) := by decide +kernel
theorem dX4_headsOf_1 : decode cX4_headsOf 1 = .ok (.iload_n 1, 1) := by decide +kernel
theorem dX4_headsOf_2 : decode cX4_headsOf 2 = .ok (.invokevirtual 49, 3) := by decide +kernel
theorem dX4_headsOf_5 : decode cX4_headsOf 5 = .ok (.aload_n 0, 1) := by decide +kernel
theorem dX4_headsOf_6 : decode cX4_headsOf 6 = .ok (.getfield 10, 3) := by decide +kernel
theorem dX4_headsOf_9 : decode cX4_headsOf 9 = .ok (.getfield 56, 3) := by decide +kernel
theorem dX4_headsOf_12 : decode cX4_headsOf 12 = .ok (.iload_n 1, 1) := by decide +kernel
theorem dX4_headsOf_13 : decode cX4_headsOf 13 = .ok (.iaload, 1) := by decide +kernel
theorem dX4_headsOf_14 : decode cX4_headsOf 14 = .ok (.ireturn, 1) := by decide +kernel
theorem dX4_stayOf_0 : decode cX4_stayOf 0 = .ok (.aload_n 0, 1) := by decide +kernel
theorem dX4_stayOf_1 : decode cX4_stayOf 1 = .ok (.iload_n 1, 1) := by decide +kernel
theorem dX4_stayOf_2 : decode cX4_stayOf 2 = .ok (.invokevirtual 49, 3) := by decide +kernel
theorem dX4_stayOf_5 : decode cX4_stayOf 5 = .ok (.aload_n 0, 1) := by decide +kernel
theorem dX4_stayOf_6 : decode cX4_stayOf 6 = .ok (.getfield 10, 3) := by decide +kernel
theorem dX4_stayOf_9 : decode cX4_stayOf 9 = .ok (.getfield 52, 3) := by decide +kernel
theorem dX4_stayOf_12 : decode cX4_stayOf 12 = .ok (.iload_n 1, 1) := by decide +kernel
theorem dX4_stayOf_13 : decode cX4_stayOf 13 = .ok (.iaload, 1) := by decide +kernel
theorem dX4_stayOf_14 : decode cX4_stayOf 14 = .ok (.ireturn, 1) := by decide +kernel
theorem dX4_stairsOf_0 : decode cX4_stairsOf 0 = .ok (.aload_n 0, 1) := by decide +kernel
theorem dX4_stairsOf_1 : decode cX4_stairsOf 1 = .ok (.iload_n 1, 1) := by decide +kernel
theorem dX4_stairsOf_2 : decode cX4_stairsOf 2 = .ok (.invokevirtual 59, 3) := by decide +kernel
theorem dX4_stairsOf_5 : decode cX4_stairsOf 5 = .ok (.aload_n 0, 1) := by decide +kernel
theorem dX4_stairsOf_6 : decode cX4_stairsOf 6 = .ok (.getfield 10, 3) := by decide +kernel
theorem dX4_stairsOf_9 : decode cX4_stairsOf 9 = .ok (.getfield 62, 3) := by decide +kernel
theorem dX4_stairsOf_12 : decode cX4_stairsOf 12 = .ok (.iload_n 1, 1) := by decide +kernel
theorem dX4_stairsOf_13 : decode cX4_stairsOf 13 = .ok (.iaload, 1) := by decide +kernel
theorem dX4_stairsOf_14 : decode cX4_stairsOf 14 = .ok (.ireturn, 1) := by decide +kernel
theorem dX4_isOpen_0 : decode cX4_isOpen 0 = .ok (.aload_n 0, 1) := by decide +kernel
theorem dX4_isOpen_1 : decode cX4_isOpen 1 = .ok (.iload_n 1, 1) := by decide +kernel
theorem dX4_isOpen_2 : decode cX4_isOpen 2 = .ok (.invokevirtual 59, 3) := by decide +kernel
theorem dX4_isOpen_5 : decode cX4_isOpen 5 = .ok (.aload_n 0, 1) := by decide +kernel
theorem dX4_isOpen_6 : decode cX4_isOpen 6 = .ok (.getfield 10, 3) := by decide +kernel
theorem dX4_isOpen_9 : decode cX4_isOpen 9 = .ok (.getfield 68, 3) := by decide +kernel
theorem dX4_isOpen_12 : decode cX4_isOpen 12 = .ok (.iload_n 1, 1) := by decide +kernel
theorem dX4_isOpen_13 : decode cX4_isOpen 13 = .ok (.baload, 1) := by decide +kernel
theorem dX4_isOpen_14 : decode cX4_isOpen 14 = .ok (.ireturn, 1) := by decide +kernel
theorem dX4_runs_0 : decode cX4_runs 0 = .ok (.aload_n 0, 1) := by decide +kernel
theorem dX4_runs_1 : decode cX4_runs 1 = .ok (.iload_n 1, 1) := by decide +kernel
theorem dX4_runs_2 : decode cX4_runs 2 = .ok (.invokevirtual 90, 3) := by decide +kernel
theorem dX4_runs_5 : decode cX4_runs 5 = .ok (.aload_n 0, 1) := by decide +kernel
theorem dX4_runs_6 : decode cX4_runs 6 = .ok (.getfield 10, 3) := by decide +kernel
theorem dX4_runs_9 : decode cX4_runs 9 = .ok (.getfield 93, 3) := by decide +kernel
theorem dX4_runs_12 : decode cX4_runs 12 = .ok (.iload_n 1, 1) := by decide +kernel
theorem dX4_runs_13 : decode cX4_runs 13 = .ok (.aaload, 1) := by decide +kernel
theorem dX4_runs_14 : decode cX4_runs 14 = .ok (.getfield 97, 3) := by decide +kernel
theorem dX4_runs_17 : decode cX4_runs 17 = .ok (.ireturn, 1) := by decide +kernel
theorem dX4_pipe_0 : decode cX4_pipe 0 = .ok (.aload_n 0, 1) := by decide +kernel
theorem dX4_pipe_1 : decode cX4_pipe 1 = .ok (.iload_n 1, 1) := by decide +kernel
theorem dX4_pipe_2 : decode cX4_pipe 2 = .ok (.invokevirtual 49, 3) := by decide +kernel
theorem dX4_pipe_5 : decode cX4_pipe 5 = .ok (.aload_n 0, 1) := by decide +kernel
theorem dX4_pipe_6 : decode cX4_pipe 6 = .ok (.iload_n 2, 1) := by decide +kernel
theorem dX4_pipe_7 : decode cX4_pipe 7 = .ok (.invokevirtual 49, 3) := by decide +kernel
theorem dX4_pipe_10 : decode cX4_pipe 10 = .ok (.aload_n 0, 1) := by decide +kernel
theorem dX4_pipe_11 : decode cX4_pipe 11 = .ok (.getfield 10, 3) := by decide +kernel
theorem dX4_pipe_14 : decode cX4_pipe 14 = .ok (.getfield 134, 3) := by decide +kernel
theorem dX4_pipe_17 : decode cX4_pipe 17 = .ok (.iload_n 1, 1) := by decide +kernel
theorem dX4_pipe_18 : decode cX4_pipe 18 = .ok (.aaload, 1) := by decide +kernel
theorem dX4_pipe_19 : decode cX4_pipe 19 = .ok (.iload_n 2, 1) := by decide +kernel
theorem dX4_pipe_20 : decode cX4_pipe 20 = .ok (.iaload, 1) := by decide +kernel
theorem dX4_pipe_21 : decode cX4_pipe 21 = .ok (.ireturn, 1) := by decide +kernel
theorem dX4_neighbours_0 : decode cX4_neighbours 0 = .ok (.aload_n 0, 1) := by decide +kernel
theorem dX4_neighbours_1 : decode cX4_neighbours 1 = .ok (.iload_n 1, 1) := by decide +kernel
theorem dX4_neighbours_2 : decode cX4_neighbours 2 = .ok (.invokevirtual 49, 3) := by decide +kernel
theorem dX4_neighbours_5 : decode cX4_neighbours 5 = .ok (.iconst 0, 1) := by decide +kernel
theorem dX4_neighbours_6 : decode cX4_neighbours 6 = .ok (.istore_n 2, 1) := by decide +kernel
theorem dX4_neighbours_7 : decode cX4_neighbours 7 = .ok (.iconst 0, 1) := by decide +kernel
theorem dX4_neighbours_8 : decode cX4_neighbours 8 = .ok (.istore_n 3, 1) := by decide +kernel
theorem dX4_neighbours_9 : decode cX4_neighbours 9 = .ok (.iload_n 3, 1) := by decide +kernel
theorem dX4_neighbours_10 : decode cX4_neighbours 10 = .ok (.aload_n 0, 1) := by decide +kernel
theorem dX4_neighbours_11 : decode cX4_neighbours 11 = .ok (.getfield 10, 3) := by decide +kernel
theorem dX4_neighbours_14 : decode cX4_neighbours 14 = .ok (.getfield 128, 3) := by decide +kernel
theorem dX4_neighbours_17 : decode cX4_neighbours 17 = .ok (.if_icmp .ge 27, 3) := by decide +kernel
theorem dX4_neighbours_20 : decode cX4_neighbours 20 = .ok (.aload_n 0, 1) := by decide +kernel
theorem dX4_neighbours_21 : decode cX4_neighbours 21 = .ok (.getfield 10, 3) := by decide +kernel
theorem dX4_neighbours_24 : decode cX4_neighbours 24 = .ok (.getfield 134, 3) := by decide +kernel
theorem dX4_neighbours_27 : decode cX4_neighbours 27 = .ok (.iload_n 1, 1) := by decide +kernel
theorem dX4_neighbours_28 : decode cX4_neighbours 28 = .ok (.aaload, 1) := by decide +kernel
theorem dX4_neighbours_29 : decode cX4_neighbours 29 = .ok (.iload_n 3, 1) := by decide +kernel
theorem dX4_neighbours_30 : decode cX4_neighbours 30 = .ok (.iaload, 1) := by decide +kernel
theorem dX4_neighbours_31 : decode cX4_neighbours 31 = .ok (.iconst (-1), 1) := by decide +kernel
theorem dX4_neighbours_32 : decode cX4_neighbours 32 = .ok (.if_icmp .eq 6, 3) := by decide +kernel
theorem dX4_neighbours_35 : decode cX4_neighbours 35 = .ok (.iinc 2 1, 3) := by decide +kernel
theorem dX4_neighbours_38 : decode cX4_neighbours 38 = .ok (.iinc 3 1, 3) := by decide +kernel
theorem dX4_neighbours_41 : decode cX4_neighbours 41 = .ok (.goto (-32), 3) := by decide +kernel
theorem dX4_neighbours_44 : decode cX4_neighbours 44 = .ok (.iload_n 2, 1) := by decide +kernel
theorem dX4_neighbours_45 : decode cX4_neighbours 45 = .ok (.ireturn, 1) := by decide +kernel
theorem dX4_originOf_0 : decode cX4_originOf 0 = .ok (.aload_n 0, 1) := by decide +kernel
theorem dX4_originOf_1 : decode cX4_originOf 1 = .ok (.iload_n 1, 1) := by decide +kernel
theorem dX4_originOf_2 : decode cX4_originOf 2 = .ok (.invokevirtual 112, 3) := by decide +kernel
theorem dX4_originOf_5 : decode cX4_originOf 5 = .ok (.aload_n 0, 1) := by decide +kernel
theorem dX4_originOf_6 : decode cX4_originOf 6 = .ok (.getfield 25, 3) := by decide +kernel
theorem dX4_originOf_9 : decode cX4_originOf 9 = .ok (.iload_n 1, 1) := by decide +kernel
theorem dX4_originOf_10 : decode cX4_originOf 10 = .ok (.aaload, 1) := by decide +kernel
theorem dX4_originOf_11 : decode cX4_originOf 11 = .ok (.getfield 138, 3) := by decide +kernel
theorem dX4_originOf_14 : decode cX4_originOf 14 = .ok (.ireturn, 1) := by decide +kernel
theorem dX4_reachOf_0 : decode cX4_reachOf 0 = .ok (.aload_n 0, 1) := by decide +kernel
theorem dX4_reachOf_1 : decode cX4_reachOf 1 = .ok (.iload_n 1, 1) := by decide +kernel
theorem dX4_reachOf_2 : decode cX4_reachOf 2 = .ok (.invokevirtual 112, 3) := by decide +kernel
theorem dX4_reachOf_5 : decode cX4_reachOf 5 = .ok (.aload_n 0, 1) := by decide +kernel
theorem dX4_reachOf_6 : decode cX4_reachOf 6 = .ok (.getfield 25, 3) := by decide +kernel
theorem dX4_reachOf_9 : decode cX4_reachOf 9 = .ok (.iload_n 1, 1) := by decide +kernel
theorem dX4_reachOf_10 : decode cX4_reachOf 10 = .ok (.aaload, 1) := by decide +kernel
theorem dX4_reachOf_11 : decode cX4_reachOf 11 = .ok (.getfield 141, 3) := by decide +kernel
theorem dX4_reachOf_14 : decode cX4_reachOf 14 = .ok (.ireturn, 1) := by decide +kernel
theorem dX4_stateOf_0 : decode cX4_stateOf 0 = .ok (.aload_n 0, 1) := by decide +kernel
theorem dX4_stateOf_1 : decode cX4_stateOf 1 = .ok (.iload_n 1, 1) := by decide +kernel
theorem dX4_stateOf_2 : decode cX4_stateOf 2 = .ok (.invokevirtual 112, 3) := by decide +kernel
theorem dX4_stateOf_5 : decode cX4_stateOf 5 = .ok (.aload_n 0, 1) := by decide +kernel
theorem dX4_stateOf_6 : decode cX4_stateOf 6 = .ok (.iload_n 2, 1) := by decide +kernel
theorem dX4_stateOf_7 : decode cX4_stateOf 7 = .ok (.invokevirtual 49, 3) := by decide +kernel
theorem dX4_stateOf_10 : decode cX4_stateOf 10 = .ok (.aload_n 0, 1) := by decide +kernel
theorem dX4_stateOf_11 : decode cX4_stateOf 11 = .ok (.getfield 25, 3) := by decide +kernel
theorem dX4_stateOf_14 : decode cX4_stateOf 14 = .ok (.iload_n 1, 1) := by decide +kernel
theorem dX4_stateOf_15 : decode cX4_stateOf 15 = .ok (.aaload, 1) := by decide +kernel
theorem dX4_stateOf_16 : decode cX4_stateOf 16 = .ok (.getfield 115, 3) := by decide +kernel
theorem dX4_stateOf_19 : decode cX4_stateOf 19 = .ok (.iload_n 2, 1) := by decide +kernel
theorem dX4_stateOf_20 : decode cX4_stateOf 20 = .ok (.iaload, 1) := by decide +kernel
theorem dX4_stateOf_21 : decode cX4_stateOf 21 = .ok (.ireturn, 1) := by decide +kernel
theorem dX4_heardAt_0 : decode cX4_heardAt 0 = .ok (.aload_n 0, 1) := by decide +kernel
theorem dX4_heardAt_1 : decode cX4_heardAt 1 = .ok (.iload_n 1, 1) := by decide +kernel
theorem dX4_heardAt_2 : decode cX4_heardAt 2 = .ok (.invokevirtual 112, 3) := by decide +kernel
theorem dX4_heardAt_5 : decode cX4_heardAt 5 = .ok (.aload_n 0, 1) := by decide +kernel
theorem dX4_heardAt_6 : decode cX4_heardAt 6 = .ok (.iload_n 2, 1) := by decide +kernel
theorem dX4_heardAt_7 : decode cX4_heardAt 7 = .ok (.invokevirtual 49, 3) := by decide +kernel
theorem dX4_heardAt_10 : decode cX4_heardAt 10 = .ok (.aload_n 0, 1) := by decide +kernel
theorem dX4_heardAt_11 : decode cX4_heardAt 11 = .ok (.getfield 25, 3) := by decide +kernel
theorem dX4_heardAt_14 : decode cX4_heardAt 14 = .ok (.iload_n 1, 1) := by decide +kernel
theorem dX4_heardAt_15 : decode cX4_heardAt 15 = .ok (.aaload, 1) := by decide +kernel
theorem dX4_heardAt_16 : decode cX4_heardAt 16 = .ok (.getfield 144, 3) := by decide +kernel
theorem dX4_heardAt_19 : decode cX4_heardAt 19 = .ok (.iload_n 2, 1) := by decide +kernel
theorem dX4_heardAt_20 : decode cX4_heardAt 20 = .ok (.iaload, 1) := by decide +kernel
theorem dX4_heardAt_21 : decode cX4_heardAt 21 = .ok (.ireturn, 1) := by decide +kernel
theorem dX4_deniedAt_0 : decode cX4_deniedAt 0 = .ok (.aload_n 0, 1) := by decide +kernel
theorem dX4_deniedAt_1 : decode cX4_deniedAt 1 = .ok (.iload_n 1, 1) := by decide +kernel
theorem dX4_deniedAt_2 : decode cX4_deniedAt 2 = .ok (.invokevirtual 112, 3) := by decide +kernel
theorem dX4_deniedAt_5 : decode cX4_deniedAt 5 = .ok (.aload_n 0, 1) := by decide +kernel
theorem dX4_deniedAt_6 : decode cX4_deniedAt 6 = .ok (.iload_n 2, 1) := by decide +kernel
theorem dX4_deniedAt_7 : decode cX4_deniedAt 7 = .ok (.invokevirtual 49, 3) := by decide +kernel
theorem dX4_deniedAt_10 : decode cX4_deniedAt 10 = .ok (.aload_n 0, 1) := by decide +kernel
theorem dX4_deniedAt_11 : decode cX4_deniedAt 11 = .ok (.getfield 25, 3) := by decide +kernel
theorem dX4_deniedAt_14 : decode cX4_deniedAt 14 = .ok (.iload_n 1, 1) := by decide +kernel
theorem dX4_deniedAt_15 : decode cX4_deniedAt 15 = .ok (.aaload, 1) := by decide +kernel
theorem dX4_deniedAt_16 : decode cX4_deniedAt 16 = .ok (.getfield 147, 3) := by decide +kernel
theorem dX4_deniedAt_19 : decode cX4_deniedAt 19 = .ok (.iload_n 2, 1) := by decide +kernel
theorem dX4_deniedAt_20 : decode cX4_deniedAt 20 = .ok (.iaload, 1) := by decide +kernel
theorem dX4_deniedAt_21 : decode cX4_deniedAt 21 = .ok (.ireturn, 1) := by decide +kernel
theorem dX4_pipesTo_0 : decode cX4_pipesTo 0 = .ok (.aload_n 0, 1) := by decide +kernel
theorem dX4_pipesTo_1 : decode cX4_pipesTo 1 = .ok (.iload_n 1, 1) := by decide +kernel
theorem dX4_pipesTo_2 : decode cX4_pipesTo 2 = .ok (.invokevirtual 112, 3) := by decide +kernel
theorem dX4_pipesTo_5 : decode cX4_pipesTo 5 = .ok (.aload_n 0, 1) := by decide +kernel
theorem dX4_pipesTo_6 : decode cX4_pipesTo 6 = .ok (.iload_n 2, 1) := by decide +kernel
theorem dX4_pipesTo_7 : decode cX4_pipesTo 7 = .ok (.invokevirtual 49, 3) := by decide +kernel
theorem dX4_pipesTo_10 : decode cX4_pipesTo 10 = .ok (.aload_n 0, 1) := by decide +kernel
theorem dX4_pipesTo_11 : decode cX4_pipesTo 11 = .ok (.getfield 25, 3) := by decide +kernel
theorem dX4_pipesTo_14 : decode cX4_pipesTo 14 = .ok (.iload_n 1, 1) := by decide +kernel
theorem dX4_pipesTo_15 : decode cX4_pipesTo 15 = .ok (.aaload, 1) := by decide +kernel
theorem dX4_pipesTo_16 : decode cX4_pipesTo 16 = .ok (.getfield 150, 3) := by decide +kernel
theorem dX4_pipesTo_19 : decode cX4_pipesTo 19 = .ok (.iload_n 2, 1) := by decide +kernel
theorem dX4_pipesTo_20 : decode cX4_pipesTo 20 = .ok (.iaload, 1) := by decide +kernel
theorem dX4_pipesTo_21 : decode cX4_pipesTo 21 = .ok (.ireturn, 1) := by decide +kernel
theorem dX4_believers_0 : decode cX4_believers 0 = .ok (.aload_n 0, 1) := by decide +kernel
theorem dX4_believers_1 : decode cX4_believers 1 = .ok (.iload_n 1, 1) := by decide +kernel
theorem dX4_believers_2 : decode cX4_believers 2 = .ok (.invokevirtual 112, 3) := by decide +kernel
theorem dX4_believers_5 : decode cX4_believers 5 = .ok (.aload_n 0, 1) := by decide +kernel
theorem dX4_believers_6 : decode cX4_believers 6 = .ok (.getfield 25, 3) := by decide +kernel
theorem dX4_believers_9 : decode cX4_believers 9 = .ok (.iload_n 1, 1) := by decide +kernel
theorem dX4_believers_10 : decode cX4_believers 10 = .ok (.aaload, 1) := by decide +kernel
theorem dX4_believers_11 : decode cX4_believers 11 = .ok (.aload_n 0, 1) := by decide +kernel
theorem dX4_believers_12 : decode cX4_believers 12 = .ok (.getfield 10, 3) := by decide +kernel
theorem dX4_believers_15 : decode cX4_believers 15 = .ok (.invokevirtual 153, 3) := by decide +kernel
theorem dX4_believers_18 : decode cX4_believers 18 = .ok (.ireturn, 1) := by decide +kernel
theorem dX4_reached_0 : decode cX4_reached 0 = .ok (.aload_n 0, 1) := by decide +kernel
theorem dX4_reached_1 : decode cX4_reached 1 = .ok (.iload_n 1, 1) := by decide +kernel
theorem dX4_reached_2 : decode cX4_reached 2 = .ok (.invokevirtual 112, 3) := by decide +kernel
theorem dX4_reached_5 : decode cX4_reached 5 = .ok (.iconst 0, 1) := by decide +kernel
theorem dX4_reached_6 : decode cX4_reached 6 = .ok (.istore_n 2, 1) := by decide +kernel
theorem dX4_reached_7 : decode cX4_reached 7 = .ok (.iconst 0, 1) := by decide +kernel
theorem dX4_reached_8 : decode cX4_reached 8 = .ok (.istore_n 3, 1) := by decide +kernel
theorem dX4_reached_9 : decode cX4_reached 9 = .ok (.iload_n 3, 1) := by decide +kernel
theorem dX4_reached_10 : decode cX4_reached 10 = .ok (.aload_n 0, 1) := by decide +kernel
theorem dX4_reached_11 : decode cX4_reached 11 = .ok (.getfield 10, 3) := by decide +kernel
theorem dX4_reached_14 : decode cX4_reached 14 = .ok (.getfield 128, 3) := by decide +kernel
theorem dX4_reached_17 : decode cX4_reached 17 = .ok (.if_icmp .ge 27, 3) := by decide +kernel
theorem dX4_reached_20 : decode cX4_reached 20 = .ok (.aload_n 0, 1) := by decide +kernel
theorem dX4_reached_21 : decode cX4_reached 21 = .ok (.getfield 25, 3) := by decide +kernel
theorem dX4_reached_24 : decode cX4_reached 24 = .ok (.iload_n 1, 1) := by decide +kernel
theorem dX4_reached_25 : decode cX4_reached 25 = .ok (.aaload, 1) := by decide +kernel
theorem dX4_reached_26 : decode cX4_reached 26 = .ok (.getfield 144, 3) := by decide +kernel
theorem dX4_reached_29 : decode cX4_reached 29 = .ok (.iload_n 3, 1) := by decide +kernel
theorem dX4_reached_30 : decode cX4_reached 30 = .ok (.iaload, 1) := by decide +kernel
theorem dX4_reached_31 : decode cX4_reached 31 = .ok (.iconst (-1), 1) := by decide +kernel
theorem dX4_reached_32 : decode cX4_reached 32 = .ok (.if_icmp .eq 6, 3) := by decide +kernel
theorem dX4_reached_35 : decode cX4_reached 35 = .ok (.iinc 2 1, 3) := by decide +kernel
theorem dX4_reached_38 : decode cX4_reached 38 = .ok (.iinc 3 1, 3) := by decide +kernel
theorem dX4_reached_41 : decode cX4_reached 41 = .ok (.goto (-32), 3) := by decide +kernel
theorem dX4_reached_44 : decode cX4_reached 44 = .ok (.iload_n 2, 1) := by decide +kernel
theorem dX4_reached_45 : decode cX4_reached 45 = .ok (.ireturn, 1) := by decide +kernel
theorem dX4_underWay_0 : decode cX4_underWay 0 = .ok (.aload_n 0, 1) := by decide +kernel
theorem dX4_underWay_1 : decode cX4_underWay 1 = .ok (.iload_n 1, 1) := by decide +kernel
theorem dX4_underWay_2 : decode cX4_underWay 2 = .ok (.invokevirtual 112, 3) := by decide +kernel
theorem dX4_underWay_5 : decode cX4_underWay 5 = .ok (.iconst 0, 1) := by decide +kernel
theorem dX4_underWay_6 : decode cX4_underWay 6 = .ok (.istore_n 2, 1) := by decide +kernel
theorem dX4_underWay_7 : decode cX4_underWay 7 = .ok (.iconst 0, 1) := by decide +kernel
theorem dX4_underWay_8 : decode cX4_underWay 8 = .ok (.istore_n 3, 1) := by decide +kernel
theorem dX4_underWay_9 : decode cX4_underWay 9 = .ok (.iload_n 3, 1) := by decide +kernel
theorem dX4_underWay_10 : decode cX4_underWay 10 = .ok (.aload_n 0, 1) := by decide +kernel
theorem dX4_underWay_11 : decode cX4_underWay 11 = .ok (.getfield 10, 3) := by decide +kernel
theorem dX4_underWay_14 : decode cX4_underWay 14 = .ok (.getfield 128, 3) := by decide +kernel
theorem dX4_underWay_17 : decode cX4_underWay 17 = .ok (.if_icmp .ge 25, 3) := by decide +kernel
theorem dX4_underWay_20 : decode cX4_underWay 20 = .ok (.aload_n 0, 1) := by decide +kernel
theorem dX4_underWay_21 : decode cX4_underWay 21 = .ok (.getfield 25, 3) := by decide +kernel
theorem dX4_underWay_24 : decode cX4_underWay 24 = .ok (.iload_n 1, 1) := by decide +kernel
theorem dX4_underWay_25 : decode cX4_underWay 25 = .ok (.aaload, 1) := by decide +kernel
theorem dX4_underWay_26 : decode cX4_underWay 26 = .ok (.iload_n 3, 1) := by decide +kernel
theorem dX4_underWay_27 : decode cX4_underWay 27 = .ok (.invokevirtual 157, 3) := by decide +kernel
theorem dX4_underWay_30 : decode cX4_underWay 30 = .ok (.ifCond .eq 6, 3) := by decide +kernel
theorem dX4_underWay_33 : decode cX4_underWay 33 = .ok (.iinc 2 1, 3) := by decide +kernel
theorem dX4_underWay_36 : decode cX4_underWay 36 = .ok (.iinc 3 1, 3) := by decide +kernel
theorem dX4_underWay_39 : decode cX4_underWay 39 = .ok (.goto (-30), 3) := by decide +kernel
theorem dX4_underWay_42 : decode cX4_underWay 42 = .ok (.iload_n 2, 1) := by decide +kernel
theorem dX4_underWay_43 : decode cX4_underWay 43 = .ok (.ireturn, 1) := by decide +kernel
theorem dX4_quickest_0 : decode cX4_quickest 0 = .ok (.aload_n 0, 1) := by decide +kernel
theorem dX4_quickest_1 : decode cX4_quickest 1 = .ok (.iload_n 1, 1) := by decide +kernel
theorem dX4_quickest_2 : decode cX4_quickest 2 = .ok (.invokevirtual 49, 3) := by decide +kernel
theorem dX4_quickest_5 : decode cX4_quickest 5 = .ok (.aload_n 0, 1) := by decide +kernel
theorem dX4_quickest_6 : decode cX4_quickest 6 = .ok (.iload_n 2, 1) := by decide +kernel
theorem dX4_quickest_7 : decode cX4_quickest 7 = .ok (.invokevirtual 49, 3) := by decide +kernel
theorem dX4_quickest_10 : decode cX4_quickest 10 = .ok (.aload_n 0, 1) := by decide +kernel
theorem dX4_quickest_11 : decode cX4_quickest 11 = .ok (.getfield 19, 3) := by decide +kernel
theorem dX4_quickest_14 : decode cX4_quickest 14 = .ok (.aload_n 0, 1) := by decide +kernel
theorem dX4_quickest_15 : decode cX4_quickest 15 = .ok (.getfield 10, 3) := by decide +kernel
theorem dX4_quickest_18 : decode cX4_quickest 18 = .ok (.iload_n 1, 1) := by decide +kernel
theorem dX4_quickest_19 : decode cX4_quickest 19 = .ok (.invokevirtual 161, 3) := by decide +kernel
theorem dX4_quickest_22 : decode cX4_quickest 22 = .ok (.aload_n 0, 1) := by decide +kernel
theorem dX4_quickest_23 : decode cX4_quickest 23 = .ok (.getfield 19, 3) := by decide +kernel
theorem dX4_quickest_26 : decode cX4_quickest 26 = .ok (.getfield 165, 3) := by decide +kernel
theorem dX4_quickest_29 : decode cX4_quickest 29 = .ok (.iload_n 2, 1) := by decide +kernel
theorem dX4_quickest_30 : decode cX4_quickest 30 = .ok (.iaload, 1) := by decide +kernel
theorem dX4_quickest_31 : decode cX4_quickest 31 = .ok (.ireturn, 1) := by decide +kernel
theorem dX4_pipesBetween_0 : decode cX4_pipesBetween 0 = .ok (.aload_n 0, 1) := by decide +kernel
theorem dX4_pipesBetween_1 : decode cX4_pipesBetween 1 = .ok (.iload_n 1, 1) := by decide +kernel
theorem dX4_pipesBetween_2 : decode cX4_pipesBetween 2 = .ok (.invokevirtual 49, 3) := by decide +kernel
theorem dX4_pipesBetween_5 : decode cX4_pipesBetween 5 = .ok (.aload_n 0, 1) := by decide +kernel
theorem dX4_pipesBetween_6 : decode cX4_pipesBetween 6 = .ok (.iload_n 2, 1) := by decide +kernel
theorem dX4_pipesBetween_7 : decode cX4_pipesBetween 7 = .ok (.invokevirtual 49, 3) := by decide +kernel
theorem dX4_pipesBetween_10 : decode cX4_pipesBetween 10 = .ok (.aload_n 0, 1) := by decide +kernel
theorem dX4_pipesBetween_11 : decode cX4_pipesBetween 11 = .ok (.getfield 19, 3) := by decide +kernel
theorem dX4_pipesBetween_14 : decode cX4_pipesBetween 14 = .ok (.aload_n 0, 1) := by decide +kernel
theorem dX4_pipesBetween_15 : decode cX4_pipesBetween 15 = .ok (.getfield 10, 3) := by decide +kernel
theorem dX4_pipesBetween_18 : decode cX4_pipesBetween 18 = .ok (.iload_n 1, 1) := by decide +kernel
theorem dX4_pipesBetween_19 : decode cX4_pipesBetween 19 = .ok (.invokevirtual 161, 3) := by decide +kernel
theorem dX4_pipesBetween_22 : decode cX4_pipesBetween 22 = .ok (.aload_n 0, 1) := by decide +kernel
theorem dX4_pipesBetween_23 : decode cX4_pipesBetween 23 = .ok (.getfield 19, 3) := by decide +kernel
theorem dX4_pipesBetween_26 : decode cX4_pipesBetween 26 = .ok (.getfield 168, 3) := by decide +kernel
theorem dX4_pipesBetween_29 : decode cX4_pipesBetween 29 = .ok (.iload_n 2, 1) := by decide +kernel
theorem dX4_pipesBetween_30 : decode cX4_pipesBetween 30 = .ok (.iaload, 1) := by decide +kernel
theorem dX4_pipesBetween_31 : decode cX4_pipesBetween 31 = .ok (.ireturn, 1) := by decide +kernel
theorem dX4_farthestFrom_0 : decode cX4_farthestFrom 0 = .ok (.aload_n 0, 1) := by decide +kernel
theorem dX4_farthestFrom_1 : decode cX4_farthestFrom 1 = .ok (.iload_n 1, 1) := by decide +kernel
theorem dX4_farthestFrom_2 : decode cX4_farthestFrom 2 = .ok (.invokevirtual 49, 3) := by decide +kernel
theorem dX4_farthestFrom_5 : decode cX4_farthestFrom 5 = .ok (.aload_n 0, 1) := by decide +kernel
theorem dX4_farthestFrom_6 : decode cX4_farthestFrom 6 = .ok (.getfield 19, 3) := by decide +kernel
theorem dX4_farthestFrom_9 : decode cX4_farthestFrom 9 = .ok (.aload_n 0, 1) := by decide +kernel
theorem dX4_farthestFrom_10 : decode cX4_farthestFrom 10 = .ok (.getfield 10, 3) := by decide +kernel
theorem dX4_farthestFrom_13 : decode cX4_farthestFrom 13 = .ok (.iload_n 1, 1) := by decide +kernel
theorem dX4_farthestFrom_14 : decode cX4_farthestFrom 14 = .ok (.invokevirtual 161, 3) := by decide +kernel
theorem dX4_farthestFrom_17 : decode cX4_farthestFrom 17 = .ok (.iload_n 1, 1) := by decide +kernel
theorem dX4_farthestFrom_18 : decode cX4_farthestFrom 18 = .ok (.istore_n 2, 1) := by decide +kernel
theorem dX4_farthestFrom_19 : decode cX4_farthestFrom 19 = .ok (.iconst 0, 1) := by decide +kernel
theorem dX4_farthestFrom_20 : decode cX4_farthestFrom 20 = .ok (.istore_n 3, 1) := by decide +kernel
theorem dX4_farthestFrom_21 : decode cX4_farthestFrom 21 = .ok (.iload_n 3, 1) := by decide +kernel
theorem dX4_farthestFrom_22 : decode cX4_farthestFrom 22 = .ok (.aload_n 0, 1) := by decide +kernel
theorem dX4_farthestFrom_23 : decode cX4_farthestFrom 23 = .ok (.getfield 10, 3) := by decide +kernel
theorem dX4_farthestFrom_26 : decode cX4_farthestFrom 26 = .ok (.getfield 128, 3) := by decide +kernel
theorem dX4_farthestFrom_29 : decode cX4_farthestFrom 29 = .ok (.if_icmp .ge 32, 3) := by decide +kernel
theorem dX4_farthestFrom_32 : decode cX4_farthestFrom 32 = .ok (.aload_n 0, 1) := by decide +kernel
theorem dX4_farthestFrom_33 : decode cX4_farthestFrom 33 = .ok (.getfield 19, 3) := by decide +kernel
theorem dX4_farthestFrom_36 : decode cX4_farthestFrom 36 = .ok (.getfield 165, 3) := by decide +kernel
theorem dX4_farthestFrom_39 : decode cX4_farthestFrom 39 = .ok (.iload_n 3, 1) := by decide +kernel
theorem dX4_farthestFrom_40 : decode cX4_farthestFrom 40 = .ok (.iaload, 1) := by decide +kernel
theorem dX4_farthestFrom_41 : decode cX4_farthestFrom 41 = .ok (.aload_n 0, 1) := by decide +kernel
theorem dX4_farthestFrom_42 : decode cX4_farthestFrom 42 = .ok (.getfield 19, 3) := by decide +kernel
theorem dX4_farthestFrom_45 : decode cX4_farthestFrom 45 = .ok (.getfield 165, 3) := by decide +kernel
theorem dX4_farthestFrom_48 : decode cX4_farthestFrom 48 = .ok (.iload_n 2, 1) := by decide +kernel
theorem dX4_farthestFrom_49 : decode cX4_farthestFrom 49 = .ok (.iaload, 1) := by decide +kernel
theorem dX4_farthestFrom_50 : decode cX4_farthestFrom 50 = .ok (.if_icmp .le 5, 3) := by decide +kernel
theorem dX4_farthestFrom_53 : decode cX4_farthestFrom 53 = .ok (.iload_n 3, 1) := by decide +kernel
theorem dX4_farthestFrom_54 : decode cX4_farthestFrom 54 = .ok (.istore_n 2, 1) := by decide +kernel
theorem dX4_farthestFrom_55 : decode cX4_farthestFrom 55 = .ok (.iinc 3 1, 3) := by decide +kernel
theorem dX4_farthestFrom_58 : decode cX4_farthestFrom 58 = .ok (.goto (-37), 3) := by decide +kernel
theorem dX4_farthestFrom_61 : decode cX4_farthestFrom 61 = .ok (.iload_n 2, 1) := by decide +kernel
theorem dX4_farthestFrom_62 : decode cX4_farthestFrom 62 = .ok (.ireturn, 1) := by decide +kernel
theorem dX4_centre_0 : decode cX4_centre 0 = .ok (.iconst (-1), 1) := by decide +kernel
theorem dX4_centre_1 : decode cX4_centre 1 = .ok (.istore_n 1, 1) := by decide +kernel
theorem dX4_centre_2 : decode cX4_centre 2 = .ok (.iconst 0, 1) := by decide +kernel
theorem dX4_centre_3 : decode cX4_centre 3 = .ok (.istore_n 2, 1) := by decide +kernel
theorem dX4_centre_4 : decode cX4_centre 4 = .ok (.iconst 0, 1) := by decide +kernel
theorem dX4_centre_5 : decode cX4_centre 5 = .ok (.istore_n 3, 1) := by decide +kernel
theorem dX4_centre_6 : decode cX4_centre 6 = .ok (.iload_n 3, 1) := by decide +kernel
theorem dX4_centre_7 : decode cX4_centre 7 = .ok (.aload_n 0, 1) := by decide +kernel
theorem dX4_centre_8 : decode cX4_centre 8 = .ok (.getfield 10, 3) := by decide +kernel
theorem dX4_centre_11 : decode cX4_centre 11 = .ok (.getfield 128, 3) := by decide +kernel
theorem dX4_centre_14 : decode cX4_centre 14 = .ok (.if_icmp .ge 59, 3) := by decide +kernel
theorem dX4_centre_17 : decode cX4_centre 17 = .ok (.aload_n 0, 1) := by decide +kernel
theorem dX4_centre_18 : decode cX4_centre 18 = .ok (.getfield 19, 3) := by decide +kernel
theorem dX4_centre_21 : decode cX4_centre 21 = .ok (.aload_n 0, 1) := by decide +kernel
theorem dX4_centre_22 : decode cX4_centre 22 = .ok (.getfield 10, 3) := by decide +kernel
theorem dX4_centre_25 : decode cX4_centre 25 = .ok (.iload_n 3, 1) := by decide +kernel
theorem dX4_centre_26 : decode cX4_centre 26 = .ok (.invokevirtual 161, 3) := by decide +kernel
theorem dX4_centre_29 : decode cX4_centre 29 = .ok (.aload_n 0, 1) := by decide +kernel
theorem dX4_centre_30 : decode cX4_centre 30 = .ok (.getfield 19, 3) := by decide +kernel
theorem dX4_centre_33 : decode cX4_centre 33 = .ok (.aload_n 0, 1) := by decide +kernel
theorem dX4_centre_34 : decode cX4_centre 34 = .ok (.getfield 10, 3) := by decide +kernel
theorem dX4_centre_37 : decode cX4_centre 37 = .ok (.getfield 128, 3) := by decide +kernel
theorem dX4_centre_40 : decode cX4_centre 40 = .ok (.invokevirtual 170, 3) := by decide +kernel
theorem dX4_centre_43 : decode cX4_centre 43 = .ok (.istore 4, 2) := by decide +kernel
theorem dX4_centre_45 : decode cX4_centre 45 = .ok (.iload 4, 2) := by decide +kernel
theorem dX4_centre_47 : decode cX4_centre 47 = .ok (.iconst (-1), 1) := by decide +kernel
theorem dX4_centre_48 : decode cX4_centre 48 = .ok (.if_icmp .eq 19, 3) := by decide +kernel
theorem dX4_centre_51 : decode cX4_centre 51 = .ok (.iload_n 1, 1) := by decide +kernel
theorem dX4_centre_52 : decode cX4_centre 52 = .ok (.iconst (-1), 1) := by decide +kernel
theorem dX4_centre_53 : decode cX4_centre 53 = .ok (.if_icmp .eq 9, 3) := by decide +kernel
theorem dX4_centre_56 : decode cX4_centre 56 = .ok (.iload 4, 2) := by decide +kernel
theorem dX4_centre_58 : decode cX4_centre 58 = .ok (.iload_n 2, 1) := by decide +kernel
theorem dX4_centre_59 : decode cX4_centre 59 = .ok (.if_icmp .ge 8, 3) := by decide +kernel
theorem dX4_centre_62 : decode cX4_centre 62 = .ok (.iload_n 3, 1) := by decide +kernel
theorem dX4_centre_63 : decode cX4_centre 63 = .ok (.istore_n 1, 1) := by decide +kernel
theorem dX4_centre_64 : decode cX4_centre 64 = .ok (.iload 4, 2) := by decide +kernel
theorem dX4_centre_66 : decode cX4_centre 66 = .ok (.istore_n 2, 1) := by decide +kernel
theorem dX4_centre_67 : decode cX4_centre 67 = .ok (.iinc 3 1, 3) := by decide +kernel
theorem dX4_centre_70 : decode cX4_centre 70 = .ok (.goto (-64), 3) := by decide +kernel
theorem dX4_centre_73 : decode cX4_centre 73 = .ok (.iload_n 1, 1) := by decide +kernel
theorem dX4_centre_74 : decode cX4_centre 74 = .ok (.iconst (-1), 1) := by decide +kernel
theorem dX4_centre_75 : decode cX4_centre 75 = .ok (.if_icmp .ne 7, 3) := by decide +kernel
theorem dX4_centre_78 : decode cX4_centre 78 = .ok (.iconst 0, 1) := by decide +kernel
theorem dX4_centre_79 : decode cX4_centre 79 = .ok (.goto 4, 3) := by decide +kernel
theorem dX4_centre_82 : decode cX4_centre 82 = .ok (.iload_n 1, 1) := by decide +kernel
theorem dX4_centre_83 : decode cX4_centre 83 = .ok (.ireturn, 1) := by decide +kernel
theorem dX4_parts_0 : decode cX4_parts 0 = .ok (.iconst 0, 1) := by decide +kernel
theorem dX4_parts_1 : decode cX4_parts 1 = .ok (.istore_n 1, 1) := by decide +kernel
theorem dX4_parts_2 : decode cX4_parts 2 = .ok (.iconst 0, 1) := by decide +kernel
theorem dX4_parts_3 : decode cX4_parts 3 = .ok (.istore_n 2, 1) := by decide +kernel
theorem dX4_parts_4 : decode cX4_parts 4 = .ok (.iload_n 2, 1) := by decide +kernel
theorem dX4_parts_5 : decode cX4_parts 5 = .ok (.aload_n 0, 1) := by decide +kernel
theorem dX4_parts_6 : decode cX4_parts 6 = .ok (.getfield 10, 3) := by decide +kernel
theorem dX4_parts_9 : decode cX4_parts 9 = .ok (.getfield 128, 3) := by decide +kernel
theorem dX4_parts_12 : decode cX4_parts 12 = .ok (.if_icmp .ge 35, 3) := by decide +kernel
theorem dX4_parts_15 : decode cX4_parts 15 = .ok (.aload_n 0, 1) := by decide +kernel
theorem dX4_parts_16 : decode cX4_parts 16 = .ok (.getfield 19, 3) := by decide +kernel
theorem dX4_parts_19 : decode cX4_parts 19 = .ok (.aload_n 0, 1) := by decide +kernel
theorem dX4_parts_20 : decode cX4_parts 20 = .ok (.getfield 10, 3) := by decide +kernel
theorem dX4_parts_23 : decode cX4_parts 23 = .ok (.iload_n 2, 1) := by decide +kernel
theorem dX4_parts_24 : decode cX4_parts 24 = .ok (.invokevirtual 161, 3) := by decide +kernel
theorem dX4_parts_27 : decode cX4_parts 27 = .ok (.aload_n 0, 1) := by decide +kernel
theorem dX4_parts_28 : decode cX4_parts 28 = .ok (.getfield 19, 3) := by decide +kernel
theorem dX4_parts_31 : decode cX4_parts 31 = .ok (.iload_n 2, 1) := by decide +kernel
theorem dX4_parts_32 : decode cX4_parts 32 = .ok (.invokevirtual 174, 3) := by decide +kernel
theorem dX4_parts_35 : decode cX4_parts 35 = .ok (.ifCond .ne 6, 3) := by decide +kernel
theorem dX4_parts_38 : decode cX4_parts 38 = .ok (.iinc 1 1, 3) := by decide +kernel
theorem dX4_parts_41 : decode cX4_parts 41 = .ok (.iinc 2 1, 3) := by decide +kernel
theorem dX4_parts_44 : decode cX4_parts 44 = .ok (.goto (-40), 3) := by decide +kernel
theorem dX4_parts_47 : decode cX4_parts 47 = .ok (.iload_n 1, 1) := by decide +kernel
theorem dX4_parts_48 : decode cX4_parts 48 = .ok (.ireturn, 1) := by decide +kernel
theorem dX4_wouldHear_0 : decode cX4_wouldHear 0 = .ok (.aload_n 0, 1) := by decide +kernel
theorem dX4_wouldHear_1 : decode cX4_wouldHear 1 = .ok (.iload_n 1, 1) := by decide +kernel
theorem dX4_wouldHear_2 : decode cX4_wouldHear 2 = .ok (.invokevirtual 112, 3) := by decide +kernel
theorem dX4_wouldHear_5 : decode cX4_wouldHear 5 = .ok (.aload_n 0, 1) := by decide +kernel
theorem dX4_wouldHear_6 : decode cX4_wouldHear 6 = .ok (.iload_n 2, 1) := by decide +kernel
theorem dX4_wouldHear_7 : decode cX4_wouldHear 7 = .ok (.invokevirtual 49, 3) := by decide +kernel
theorem dX4_wouldHear_10 : decode cX4_wouldHear 10 = .ok (.aload_n 0, 1) := by decide +kernel
theorem dX4_wouldHear_11 : decode cX4_wouldHear 11 = .ok (.getfield 30, 3) := by decide +kernel
theorem dX4_wouldHear_14 : decode cX4_wouldHear 14 = .ok (.aload_n 0, 1) := by decide +kernel
theorem dX4_wouldHear_15 : decode cX4_wouldHear 15 = .ok (.getfield 25, 3) := by decide +kernel
theorem dX4_wouldHear_18 : decode cX4_wouldHear 18 = .ok (.iload_n 1, 1) := by decide +kernel
theorem dX4_wouldHear_19 : decode cX4_wouldHear 19 = .ok (.aaload, 1) := by decide +kernel
theorem dX4_wouldHear_20 : decode cX4_wouldHear 20 = .ok (.invokevirtual 181, 3) := by decide +kernel
theorem dX4_wouldHear_23 : decode cX4_wouldHear 23 = .ok (.aload_n 0, 1) := by decide +kernel
theorem dX4_wouldHear_24 : decode cX4_wouldHear 24 = .ok (.getfield 30, 3) := by decide +kernel
theorem dX4_wouldHear_27 : decode cX4_wouldHear 27 = .ok (.aload_n 0, 1) := by decide +kernel
theorem dX4_wouldHear_28 : decode cX4_wouldHear 28 = .ok (.getfield 10, 3) := by decide +kernel
theorem dX4_wouldHear_31 : decode cX4_wouldHear 31 = .ok (.aload_n 0, 1) := by decide +kernel
theorem dX4_wouldHear_32 : decode cX4_wouldHear 32 = .ok (.getfield 38, 3) := by decide +kernel
theorem dX4_wouldHear_35 : decode cX4_wouldHear 35 = .ok (.invokevirtual 185, 3) := by decide +kernel
theorem dX4_wouldHear_38 : decode cX4_wouldHear 38 = .ok (.pop, 1) := by decide +kernel
theorem dX4_wouldHear_39 : decode cX4_wouldHear 39 = .ok (.aload_n 0, 1) := by decide +kernel
theorem dX4_wouldHear_40 : decode cX4_wouldHear 40 = .ok (.getfield 30, 3) := by decide +kernel
theorem dX4_wouldHear_43 : decode cX4_wouldHear 43 = .ok (.getfield 144, 3) := by decide +kernel
theorem dX4_wouldHear_46 : decode cX4_wouldHear 46 = .ok (.iload_n 2, 1) := by decide +kernel
theorem dX4_wouldHear_47 : decode cX4_wouldHear 47 = .ok (.iaload, 1) := by decide +kernel
theorem dX4_wouldHear_48 : decode cX4_wouldHear 48 = .ok (.ireturn, 1) := by decide +kernel
theorem dX4_believersInTheEnd_0 : decode cX4_believersInTheEnd 0 = .ok (.aload_n 0, 1) := by decide +kernel
theorem dX4_believersInTheEnd_1 : decode cX4_believersInTheEnd 1 = .ok (.iload_n 1, 1) := by decide +kernel
theorem dX4_believersInTheEnd_2 : decode cX4_believersInTheEnd 2 = .ok (.invokevirtual 112, 3) := by decide +kernel
theorem dX4_believersInTheEnd_5 : decode cX4_believersInTheEnd 5 = .ok (.aload_n 0, 1) := by decide +kernel
theorem dX4_believersInTheEnd_6 : decode cX4_believersInTheEnd 6 = .ok (.getfield 30, 3) := by decide +kernel
theorem dX4_believersInTheEnd_9 : decode cX4_believersInTheEnd 9 = .ok (.aload_n 0, 1) := by decide +kernel
theorem dX4_believersInTheEnd_10 : decode cX4_believersInTheEnd 10 = .ok (.getfield 25, 3) := by decide +kernel
theorem dX4_believersInTheEnd_13 : decode cX4_believersInTheEnd 13 = .ok (.iload_n 1, 1) := by decide +kernel
theorem dX4_believersInTheEnd_14 : decode cX4_believersInTheEnd 14 = .ok (.aaload, 1) := by decide +kernel
theorem dX4_believersInTheEnd_15 : decode cX4_believersInTheEnd 15 = .ok (.invokevirtual 181, 3) := by decide +kernel
theorem dX4_believersInTheEnd_18 : decode cX4_believersInTheEnd 18 = .ok (.aload_n 0, 1) := by decide +kernel
theorem dX4_believersInTheEnd_19 : decode cX4_believersInTheEnd 19 = .ok (.getfield 30, 3) := by decide +kernel
theorem dX4_believersInTheEnd_22 : decode cX4_believersInTheEnd 22 = .ok (.aload_n 0, 1) := by decide +kernel
theorem dX4_believersInTheEnd_23 : decode cX4_believersInTheEnd 23 = .ok (.getfield 10, 3) := by decide +kernel
theorem dX4_believersInTheEnd_26 : decode cX4_believersInTheEnd 26 = .ok (.aload_n 0, 1) := by decide +kernel
theorem dX4_believersInTheEnd_27 : decode cX4_believersInTheEnd 27 = .ok (.getfield 38, 3) := by decide +kernel
theorem dX4_believersInTheEnd_30 : decode cX4_believersInTheEnd 30 = .ok (.invokevirtual 185, 3) := by decide +kernel
theorem dX4_believersInTheEnd_33 : decode cX4_believersInTheEnd 33 = .ok (.pop, 1) := by decide +kernel
theorem dX4_believersInTheEnd_34 : decode cX4_believersInTheEnd 34 = .ok (.aload_n 0, 1) := by decide +kernel
theorem dX4_believersInTheEnd_35 : decode cX4_believersInTheEnd 35 = .ok (.getfield 30, 3) := by decide +kernel
theorem dX4_believersInTheEnd_38 : decode cX4_believersInTheEnd 38 = .ok (.aload_n 0, 1) := by decide +kernel
theorem dX4_believersInTheEnd_39 : decode cX4_believersInTheEnd 39 = .ok (.getfield 10, 3) := by decide +kernel
theorem dX4_believersInTheEnd_42 : decode cX4_believersInTheEnd 42 = .ok (.invokevirtual 153, 3) := by decide +kernel
theorem dX4_believersInTheEnd_45 : decode cX4_believersInTheEnd 45 = .ok (.ireturn, 1) := by decide +kernel
theorem dX4_quietIn_0 : decode cX4_quietIn 0 = .ok (.aload_n 0, 1) := by decide +kernel
theorem dX4_quietIn_1 : decode cX4_quietIn 1 = .ok (.iload_n 1, 1) := by decide +kernel
theorem dX4_quietIn_2 : decode cX4_quietIn 2 = .ok (.invokevirtual 112, 3) := by decide +kernel
theorem dX4_quietIn_5 : decode cX4_quietIn 5 = .ok (.aload_n 0, 1) := by decide +kernel
theorem dX4_quietIn_6 : decode cX4_quietIn 6 = .ok (.getfield 30, 3) := by decide +kernel
theorem dX4_quietIn_9 : decode cX4_quietIn 9 = .ok (.aload_n 0, 1) := by decide +kernel
theorem dX4_quietIn_10 : decode cX4_quietIn 10 = .ok (.getfield 25, 3) := by decide +kernel
theorem dX4_quietIn_13 : decode cX4_quietIn 13 = .ok (.iload_n 1, 1) := by decide +kernel
theorem dX4_quietIn_14 : decode cX4_quietIn 14 = .ok (.aaload, 1) := by decide +kernel
theorem dX4_quietIn_15 : decode cX4_quietIn 15 = .ok (.invokevirtual 181, 3) := by decide +kernel
theorem dX4_quietIn_18 : decode cX4_quietIn 18 = .ok (.aload_n 0, 1) := by decide +kernel
theorem dX4_quietIn_19 : decode cX4_quietIn 19 = .ok (.getfield 30, 3) := by decide +kernel
theorem dX4_quietIn_22 : decode cX4_quietIn 22 = .ok (.aload_n 0, 1) := by decide +kernel
theorem dX4_quietIn_23 : decode cX4_quietIn 23 = .ok (.getfield 10, 3) := by decide +kernel
theorem dX4_quietIn_26 : decode cX4_quietIn 26 = .ok (.aload_n 0, 1) := by decide +kernel
theorem dX4_quietIn_27 : decode cX4_quietIn 27 = .ok (.getfield 38, 3) := by decide +kernel
theorem dX4_quietIn_30 : decode cX4_quietIn 30 = .ok (.invokevirtual 185, 3) := by decide +kernel
theorem dX4_quietIn_33 : decode cX4_quietIn 33 = .ok (.istore_n 2, 1) := by decide +kernel
theorem dX4_quietIn_34 : decode cX4_quietIn 34 = .ok (.aload_n 0, 1) := by decide +kernel
theorem dX4_quietIn_35 : decode cX4_quietIn 35 = .ok (.getfield 30, 3) := by decide +kernel
theorem dX4_quietIn_38 : decode cX4_quietIn 38 = .ok (.aload_n 0, 1) := by decide +kernel
theorem dX4_quietIn_39 : decode cX4_quietIn 39 = .ok (.getfield 10, 3) := by decide +kernel
theorem dX4_quietIn_42 : decode cX4_quietIn 42 = .ok (.getfield 128, 3) := by decide +kernel
theorem dX4_quietIn_45 : decode cX4_quietIn 45 = .ok (.invokevirtual 188, 3) := by decide +kernel
theorem dX4_quietIn_48 : decode cX4_quietIn 48 = .ok (.ifCond .eq 7, 3) := by decide +kernel
theorem dX4_quietIn_51 : decode cX4_quietIn 51 = .ok (.iload_n 2, 1) := by decide +kernel
theorem dX4_quietIn_52 : decode cX4_quietIn 52 = .ok (.goto 4, 3) := by decide +kernel
theorem dX4_quietIn_55 : decode cX4_quietIn 55 = .ok (.iconst (-1), 1) := by decide +kernel
theorem dX4_quietIn_56 : decode cX4_quietIn 56 = .ok (.ireturn, 1) := by decide +kernel
theorem dX4_believersWith_0 : decode cX4_believersWith 0 = .ok (.aload_n 0, 1) := by decide +kernel
theorem dX4_believersWith_1 : decode cX4_believersWith 1 = .ok (.iload_n 1, 1) := by decide +kernel
theorem dX4_believersWith_2 : decode cX4_believersWith 2 = .ok (.invokevirtual 112, 3) := by decide +kernel
theorem dX4_believersWith_5 : decode cX4_believersWith 5 = .ok (.aload_n 0, 1) := by decide +kernel
theorem dX4_believersWith_6 : decode cX4_believersWith 6 = .ok (.iload_n 2, 1) := by decide +kernel
theorem dX4_believersWith_7 : decode cX4_believersWith 7 = .ok (.invokevirtual 49, 3) := by decide +kernel
theorem dX4_believersWith_10 : decode cX4_believersWith 10 = .ok (.aload_n 0, 1) := by decide +kernel
theorem dX4_believersWith_11 : decode cX4_believersWith 11 = .ok (.getfield 30, 3) := by decide +kernel
theorem dX4_believersWith_14 : decode cX4_believersWith 14 = .ok (.aload_n 0, 1) := by decide +kernel
theorem dX4_believersWith_15 : decode cX4_believersWith 15 = .ok (.getfield 25, 3) := by decide +kernel
theorem dX4_believersWith_18 : decode cX4_believersWith 18 = .ok (.iload_n 1, 1) := by decide +kernel
theorem dX4_believersWith_19 : decode cX4_believersWith 19 = .ok (.aaload, 1) := by decide +kernel
theorem dX4_believersWith_20 : decode cX4_believersWith 20 = .ok (.invokevirtual 181, 3) := by decide +kernel
theorem dX4_believersWith_23 : decode cX4_believersWith 23 = .ok (.aload_n 0, 1) := by decide +kernel
theorem dX4_believersWith_24 : decode cX4_believersWith 24 = .ok (.getfield 30, 3) := by decide +kernel
theorem dX4_believersWith_27 : decode cX4_believersWith 27 = .ok (.aload_n 0, 1) := by decide +kernel
theorem dX4_believersWith_28 : decode cX4_believersWith 28 = .ok (.getfield 10, 3) := by decide +kernel
theorem dX4_believersWith_31 : decode cX4_believersWith 31 = .ok (.iload_n 2, 1) := by decide +kernel
theorem dX4_believersWith_32 : decode cX4_believersWith 32 = .ok (.aload_n 0, 1) := by decide +kernel
theorem dX4_believersWith_33 : decode cX4_believersWith 33 = .ok (.getfield 38, 3) := by decide +kernel
theorem dX4_believersWith_36 : decode cX4_believersWith 36 = .ok (.invokevirtual 120, 3) := by decide +kernel
theorem dX4_believersWith_39 : decode cX4_believersWith 39 = .ok (.aload_n 0, 1) := by decide +kernel
theorem dX4_believersWith_40 : decode cX4_believersWith 40 = .ok (.getfield 30, 3) := by decide +kernel
theorem dX4_believersWith_43 : decode cX4_believersWith 43 = .ok (.aload_n 0, 1) := by decide +kernel
theorem dX4_believersWith_44 : decode cX4_believersWith 44 = .ok (.getfield 10, 3) := by decide +kernel
theorem dX4_believersWith_47 : decode cX4_believersWith 47 = .ok (.aload_n 0, 1) := by decide +kernel
theorem dX4_believersWith_48 : decode cX4_believersWith 48 = .ok (.getfield 38, 3) := by decide +kernel
theorem dX4_believersWith_51 : decode cX4_believersWith 51 = .ok (.invokevirtual 185, 3) := by decide +kernel
theorem dX4_believersWith_54 : decode cX4_believersWith 54 = .ok (.pop, 1) := by decide +kernel
theorem dX4_believersWith_55 : decode cX4_believersWith 55 = .ok (.aload_n 0, 1) := by decide +kernel
theorem dX4_believersWith_56 : decode cX4_believersWith 56 = .ok (.getfield 30, 3) := by decide +kernel
theorem dX4_believersWith_59 : decode cX4_believersWith 59 = .ok (.aload_n 0, 1) := by decide +kernel
theorem dX4_believersWith_60 : decode cX4_believersWith 60 = .ok (.getfield 10, 3) := by decide +kernel
theorem dX4_believersWith_63 : decode cX4_believersWith 63 = .ok (.invokevirtual 153, 3) := by decide +kernel
theorem dX4_believersWith_66 : decode cX4_believersWith 66 = .ok (.ireturn, 1) := by decide +kernel
theorem dX4_bestDenial_0 : decode cX4_bestDenial 0 = .ok (.aload_n 0, 1) := by decide +kernel
theorem dX4_bestDenial_1 : decode cX4_bestDenial 1 = .ok (.iload_n 1, 1) := by decide +kernel
theorem dX4_bestDenial_2 : decode cX4_bestDenial 2 = .ok (.invokevirtual 112, 3) := by decide +kernel
theorem dX4_bestDenial_5 : decode cX4_bestDenial 5 = .ok (.iconst 0, 1) := by decide +kernel
theorem dX4_bestDenial_6 : decode cX4_bestDenial 6 = .ok (.istore_n 2, 1) := by decide +kernel
theorem dX4_bestDenial_7 : decode cX4_bestDenial 7 = .ok (.aload_n 0, 1) := by decide +kernel
theorem dX4_bestDenial_8 : decode cX4_bestDenial 8 = .ok (.iload_n 1, 1) := by decide +kernel
theorem dX4_bestDenial_9 : decode cX4_bestDenial 9 = .ok (.iconst 0, 1) := by decide +kernel
theorem dX4_bestDenial_10 : decode cX4_bestDenial 10 = .ok (.invokevirtual 191, 3) := by decide +kernel
theorem dX4_bestDenial_13 : decode cX4_bestDenial 13 = .ok (.istore_n 3, 1) := by decide +kernel
theorem dX4_bestDenial_14 : decode cX4_bestDenial 14 = .ok (.iconst 1, 1) := by decide +kernel
theorem dX4_bestDenial_15 : decode cX4_bestDenial 15 = .ok (.istore 4, 2) := by decide +kernel
theorem dX4_bestDenial_17 : decode cX4_bestDenial 17 = .ok (.iload 4, 2) := by decide +kernel
theorem dX4_bestDenial_19 : decode cX4_bestDenial 19 = .ok (.aload_n 0, 1) := by decide +kernel
theorem dX4_bestDenial_20 : decode cX4_bestDenial 20 = .ok (.getfield 10, 3) := by decide +kernel
theorem dX4_bestDenial_23 : decode cX4_bestDenial 23 = .ok (.getfield 128, 3) := by decide +kernel
theorem dX4_bestDenial_26 : decode cX4_bestDenial 26 = .ok (.if_icmp .ge 30, 3) := by decide +kernel
theorem dX4_bestDenial_29 : decode cX4_bestDenial 29 = .ok (.aload_n 0, 1) := by decide +kernel
theorem dX4_bestDenial_30 : decode cX4_bestDenial 30 = .ok (.iload_n 1, 1) := by decide +kernel
theorem dX4_bestDenial_31 : decode cX4_bestDenial 31 = .ok (.iload 4, 2) := by decide +kernel
theorem dX4_bestDenial_33 : decode cX4_bestDenial 33 = .ok (.invokevirtual 191, 3) := by decide +kernel
theorem dX4_bestDenial_36 : decode cX4_bestDenial 36 = .ok (.istore 5, 2) := by decide +kernel
theorem dX4_bestDenial_38 : decode cX4_bestDenial 38 = .ok (.iload 5, 2) := by decide +kernel
theorem dX4_bestDenial_40 : decode cX4_bestDenial 40 = .ok (.iload_n 3, 1) := by decide +kernel
theorem dX4_bestDenial_41 : decode cX4_bestDenial 41 = .ok (.if_icmp .ge 9, 3) := by decide +kernel
theorem dX4_bestDenial_44 : decode cX4_bestDenial 44 = .ok (.iload 4, 2) := by decide +kernel
theorem dX4_bestDenial_46 : decode cX4_bestDenial 46 = .ok (.istore_n 2, 1) := by decide +kernel
theorem dX4_bestDenial_47 : decode cX4_bestDenial 47 = .ok (.iload 5, 2) := by decide +kernel
theorem dX4_bestDenial_49 : decode cX4_bestDenial 49 = .ok (.istore_n 3, 1) := by decide +kernel
theorem dX4_bestDenial_50 : decode cX4_bestDenial 50 = .ok (.iinc 4 1, 3) := by decide +kernel
theorem dX4_bestDenial_53 : decode cX4_bestDenial 53 = .ok (.goto (-36), 3) := by decide +kernel
theorem dX4_bestDenial_56 : decode cX4_bestDenial 56 = .ok (.iload_n 2, 1) := by decide +kernel
theorem dX4_bestDenial_57 : decode cX4_bestDenial 57 = .ok (.ireturn, 1) := by decide +kernel
theorem dX4_bestStairsToShut_0 : decode cX4_bestStairsToShut 0 = .ok (.aload_n 0, 1) := by decide +kernel
theorem dX4_bestStairsToShut_1 : decode cX4_bestStairsToShut 1 = .ok (.iload_n 1, 1) := by decide +kernel
theorem dX4_bestStairsToShut_2 : decode cX4_bestStairsToShut 2 = .ok (.invokevirtual 112, 3) := by decide +kernel
theorem dX4_bestStairsToShut_5 : decode cX4_bestStairsToShut 5 = .ok (.iconst (-1), 1) := by decide +kernel
theorem dX4_bestStairsToShut_6 : decode cX4_bestStairsToShut 6 = .ok (.istore_n 2, 1) := by decide +kernel
theorem dX4_bestStairsToShut_7 : decode cX4_bestStairsToShut 7 = .ok (.aload_n 0, 1) := by decide +kernel
theorem dX4_bestStairsToShut_8 : decode cX4_bestStairsToShut 8 = .ok (.iload_n 1, 1) := by decide +kernel
theorem dX4_bestStairsToShut_9 : decode cX4_bestStairsToShut 9 = .ok (.invokevirtual 194, 3) := by decide +kernel
theorem dX4_bestStairsToShut_12 : decode cX4_bestStairsToShut 12 = .ok (.istore_n 3, 1) := by decide +kernel
theorem dX4_bestStairsToShut_13 : decode cX4_bestStairsToShut 13 = .ok (.iconst 0, 1) := by decide +kernel
theorem dX4_bestStairsToShut_14 : decode cX4_bestStairsToShut 14 = .ok (.istore 4, 2) := by decide +kernel
theorem dX4_bestStairsToShut_16 : decode cX4_bestStairsToShut 16 = .ok (.iload 4, 2) := by decide +kernel
theorem dX4_bestStairsToShut_18 : decode cX4_bestStairsToShut 18 = .ok (.aload_n 0, 1) := by decide +kernel
theorem dX4_bestStairsToShut_19 : decode cX4_bestStairsToShut 19 = .ok (.getfield 10, 3) := by decide +kernel
theorem dX4_bestStairsToShut_22 : decode cX4_bestStairsToShut 22 = .ok (.getfield 128, 3) := by decide +kernel
theorem dX4_bestStairsToShut_25 : decode cX4_bestStairsToShut 25 = .ok (.iconst 1, 1) := by decide +kernel
theorem dX4_bestStairsToShut_26 : decode cX4_bestStairsToShut 26 = .ok (.isub, 1) := by decide +kernel
theorem dX4_bestStairsToShut_27 : decode cX4_bestStairsToShut 27 = .ok (.if_icmp .ge 61, 3) := by decide +kernel
theorem dX4_bestStairsToShut_30 : decode cX4_bestStairsToShut 30 = .ok (.aload_n 0, 1) := by decide +kernel
theorem dX4_bestStairsToShut_31 : decode cX4_bestStairsToShut 31 = .ok (.getfield 10, 3) := by decide +kernel
theorem dX4_bestStairsToShut_34 : decode cX4_bestStairsToShut 34 = .ok (.getfield 68, 3) := by decide +kernel
theorem dX4_bestStairsToShut_37 : decode cX4_bestStairsToShut 37 = .ok (.iload 4, 2) := by decide +kernel
theorem dX4_bestStairsToShut_39 : decode cX4_bestStairsToShut 39 = .ok (.baload, 1) := by decide +kernel
theorem dX4_bestStairsToShut_40 : decode cX4_bestStairsToShut 40 = .ok (.ifCond .eq 42, 3) := by decide +kernel
theorem dX4_bestStairsToShut_43 : decode cX4_bestStairsToShut 43 = .ok (.aload_n 0, 1) := by decide +kernel
theorem dX4_bestStairsToShut_44 : decode cX4_bestStairsToShut 44 = .ok (.getfield 10, 3) := by decide +kernel
theorem dX4_bestStairsToShut_47 : decode cX4_bestStairsToShut 47 = .ok (.iload 4, 2) := by decide +kernel
theorem dX4_bestStairsToShut_49 : decode cX4_bestStairsToShut 49 = .ok (.iconst 0, 1) := by decide +kernel
theorem dX4_bestStairsToShut_50 : decode cX4_bestStairsToShut 50 = .ok (.invokevirtual 72, 3) := by decide +kernel
theorem dX4_bestStairsToShut_53 : decode cX4_bestStairsToShut 53 = .ok (.aload_n 0, 1) := by decide +kernel
theorem dX4_bestStairsToShut_54 : decode cX4_bestStairsToShut 54 = .ok (.iload_n 1, 1) := by decide +kernel
theorem dX4_bestStairsToShut_55 : decode cX4_bestStairsToShut 55 = .ok (.invokevirtual 194, 3) := by decide +kernel
theorem dX4_bestStairsToShut_58 : decode cX4_bestStairsToShut 58 = .ok (.istore 5, 2) := by decide +kernel
theorem dX4_bestStairsToShut_60 : decode cX4_bestStairsToShut 60 = .ok (.aload_n 0, 1) := by decide +kernel
theorem dX4_bestStairsToShut_61 : decode cX4_bestStairsToShut 61 = .ok (.getfield 10, 3) := by decide +kernel
theorem dX4_bestStairsToShut_64 : decode cX4_bestStairsToShut 64 = .ok (.iload 4, 2) := by decide +kernel
theorem dX4_bestStairsToShut_66 : decode cX4_bestStairsToShut 66 = .ok (.iconst 1, 1) := by decide +kernel
theorem dX4_bestStairsToShut_67 : decode cX4_bestStairsToShut 67 = .ok (.invokevirtual 72, 3) := by decide +kernel
theorem dX4_bestStairsToShut_70 : decode cX4_bestStairsToShut 70 = .ok (.iload 5, 2) := by decide +kernel
theorem dX4_bestStairsToShut_72 : decode cX4_bestStairsToShut 72 = .ok (.iload_n 3, 1) := by decide +kernel
theorem dX4_bestStairsToShut_73 : decode cX4_bestStairsToShut 73 = .ok (.if_icmp .ge 9, 3) := by decide +kernel
theorem dX4_bestStairsToShut_76 : decode cX4_bestStairsToShut 76 = .ok (.iload 4, 2) := by decide +kernel
theorem dX4_bestStairsToShut_78 : decode cX4_bestStairsToShut 78 = .ok (.istore_n 2, 1) := by decide +kernel
theorem dX4_bestStairsToShut_79 : decode cX4_bestStairsToShut 79 = .ok (.iload 5, 2) := by decide +kernel
theorem dX4_bestStairsToShut_81 : decode cX4_bestStairsToShut 81 = .ok (.istore_n 3, 1) := by decide +kernel
theorem dX4_bestStairsToShut_82 : decode cX4_bestStairsToShut 82 = .ok (.iinc 4 1, 3) := by decide +kernel
theorem dX4_bestStairsToShut_85 : decode cX4_bestStairsToShut 85 = .ok (.goto (-69), 3) := by decide +kernel
theorem dX4_bestStairsToShut_88 : decode cX4_bestStairsToShut 88 = .ok (.iload_n 2, 1) := by decide +kernel
theorem dX4_bestStairsToShut_89 : decode cX4_bestStairsToShut 89 = .ok (.ireturn, 1) := by decide +kernel
theorem dX4_meanHeads_0 : decode cX4_meanHeads 0 = .ok (.iconst 0, 1) := by decide +kernel
theorem dX4_meanHeads_1 : decode cX4_meanHeads 1 = .ok (.istore_n 1, 1) := by decide +kernel
theorem dX4_meanHeads_2 : decode cX4_meanHeads 2 = .ok (.iconst 0, 1) := by decide +kernel
theorem dX4_meanHeads_3 : decode cX4_meanHeads 3 = .ok (.istore_n 2, 1) := by decide +kernel
theorem dX4_meanHeads_4 : decode cX4_meanHeads 4 = .ok (.iload_n 2, 1) := by decide +kernel
theorem dX4_meanHeads_5 : decode cX4_meanHeads 5 = .ok (.aload_n 0, 1) := by decide +kernel
theorem dX4_meanHeads_6 : decode cX4_meanHeads 6 = .ok (.getfield 10, 3) := by decide +kernel
theorem dX4_meanHeads_9 : decode cX4_meanHeads 9 = .ok (.getfield 128, 3) := by decide +kernel
theorem dX4_meanHeads_12 : decode cX4_meanHeads 12 = .ok (.if_icmp .ge 21, 3) := by decide +kernel
theorem dX4_meanHeads_15 : decode cX4_meanHeads 15 = .ok (.iload_n 1, 1) := by decide +kernel
theorem dX4_meanHeads_16 : decode cX4_meanHeads 16 = .ok (.aload_n 0, 1) := by decide +kernel
theorem dX4_meanHeads_17 : decode cX4_meanHeads 17 = .ok (.getfield 10, 3) := by decide +kernel
theorem dX4_meanHeads_20 : decode cX4_meanHeads 20 = .ok (.getfield 56, 3) := by decide +kernel
theorem dX4_meanHeads_23 : decode cX4_meanHeads 23 = .ok (.iload_n 2, 1) := by decide +kernel
theorem dX4_meanHeads_24 : decode cX4_meanHeads 24 = .ok (.iaload, 1) := by decide +kernel
theorem dX4_meanHeads_25 : decode cX4_meanHeads 25 = .ok (.iadd, 1) := by decide +kernel
theorem dX4_meanHeads_26 : decode cX4_meanHeads 26 = .ok (.istore_n 1, 1) := by decide +kernel
theorem dX4_meanHeads_27 : decode cX4_meanHeads 27 = .ok (.iinc 2 1, 3) := by decide +kernel
theorem dX4_meanHeads_30 : decode cX4_meanHeads 30 = .ok (.goto (-26), 3) := by decide +kernel
theorem dX4_meanHeads_33 : decode cX4_meanHeads 33 = .ok (.aload_n 0, 1) := by decide +kernel
theorem dX4_meanHeads_34 : decode cX4_meanHeads 34 = .ok (.getfield 10, 3) := by decide +kernel
theorem dX4_meanHeads_37 : decode cX4_meanHeads 37 = .ok (.getfield 128, 3) := by decide +kernel
theorem dX4_meanHeads_40 : decode cX4_meanHeads 40 = .ok (.ifCond .le 17, 3) := by decide +kernel
theorem dX4_meanHeads_43 : decode cX4_meanHeads 43 = .ok (.iload_n 1, 1) := by decide +kernel
theorem dX4_meanHeads_44 : decode cX4_meanHeads 44 = .ok (.i2d, 1) := by decide +kernel
theorem dX4_meanHeads_45 : decode cX4_meanHeads 45 = .ok (.aload_n 0, 1) := by decide +kernel
theorem dX4_meanHeads_46 : decode cX4_meanHeads 46 = .ok (.getfield 10, 3) := by decide +kernel
theorem dX4_meanHeads_49 : decode cX4_meanHeads 49 = .ok (.getfield 128, 3) := by decide +kernel
theorem dX4_meanHeads_52 : decode cX4_meanHeads 52 = .ok (.i2d, 1) := by decide +kernel
theorem dX4_meanHeads_53 : decode cX4_meanHeads 53 = .ok (.ddiv, 1) := by decide +kernel
theorem dX4_meanHeads_54 : decode cX4_meanHeads 54 = .ok (.goto 4, 3) := by decide +kernel
theorem dX4_meanHeads_57 : decode cX4_meanHeads 57 = .ok (.dconst 0, 1) := by decide +kernel
theorem dX4_meanHeads_58 : decode cX4_meanHeads 58 = .ok (.dreturn, 1) := by decide +kernel
theorem dX4_digest_0 : decode cX4_digest 0 = .ok (.ldc2_w 197, 3) := by decide +kernel
theorem dX4_digest_3 : decode cX4_digest 3 = .ok (.lstore_n 1, 1) := by decide +kernel
theorem dX4_digest_4 : decode cX4_digest 4 = .ok (.lload_n 1, 1) := by decide +kernel
theorem dX4_digest_5 : decode cX4_digest 5 = .ok (.aload_n 0, 1) := by decide +kernel
theorem dX4_digest_6 : decode cX4_digest 6 = .ok (.invokevirtual 199, 3) := by decide +kernel
theorem dX4_digest_9 : decode cX4_digest 9 = .ok (.i2l, 1) := by decide +kernel
theorem dX4_digest_10 : decode cX4_digest 10 = .ok (.invokestatic 203, 3) := by decide +kernel
theorem dX4_digest_13 : decode cX4_digest 13 = .ok (.lstore_n 1, 1) := by decide +kernel
theorem dX4_digest_14 : decode cX4_digest 14 = .ok (.lload_n 1, 1) := by decide +kernel
theorem dX4_digest_15 : decode cX4_digest 15 = .ok (.aload_n 0, 1) := by decide +kernel
theorem dX4_digest_16 : decode cX4_digest 16 = .ok (.invokevirtual 207, 3) := by decide +kernel
theorem dX4_digest_19 : decode cX4_digest 19 = .ok (.i2l, 1) := by decide +kernel
theorem dX4_digest_20 : decode cX4_digest 20 = .ok (.invokestatic 203, 3) := by decide +kernel
theorem dX4_digest_23 : decode cX4_digest 23 = .ok (.lstore_n 1, 1) := by decide +kernel
theorem dX4_digest_24 : decode cX4_digest 24 = .ok (.lload_n 1, 1) := by decide +kernel
theorem dX4_digest_25 : decode cX4_digest 25 = .ok (.aload_n 0, 1) := by decide +kernel
theorem dX4_digest_26 : decode cX4_digest 26 = .ok (.invokevirtual 209, 3) := by decide +kernel
theorem dX4_digest_29 : decode cX4_digest 29 = .ok (.i2l, 1) := by decide +kernel
theorem dX4_digest_30 : decode cX4_digest 30 = .ok (.invokestatic 203, 3) := by decide +kernel
theorem dX4_digest_33 : decode cX4_digest 33 = .ok (.lstore_n 1, 1) := by decide +kernel
theorem dX4_digest_34 : decode cX4_digest 34 = .ok (.lload_n 1, 1) := by decide +kernel
theorem dX4_digest_35 : decode cX4_digest 35 = .ok (.aload_n 0, 1) := by decide +kernel
theorem dX4_digest_36 : decode cX4_digest 36 = .ok (.invokevirtual 211, 3) := by decide +kernel
theorem dX4_digest_39 : decode cX4_digest 39 = .ok (.i2l, 1) := by decide +kernel
theorem dX4_digest_40 : decode cX4_digest 40 = .ok (.invokestatic 203, 3) := by decide +kernel
theorem dX4_digest_43 : decode cX4_digest 43 = .ok (.lstore_n 1, 1) := by decide +kernel
theorem dX4_digest_44 : decode cX4_digest 44 = .ok (.lload_n 1, 1) := by decide +kernel
theorem dX4_digest_45 : decode cX4_digest 45 = .ok (.aload_n 0, 1) := by decide +kernel
theorem dX4_digest_46 : decode cX4_digest 46 = .ok (.invokevirtual 214, 3) := by decide +kernel
theorem dX4_digest_49 : decode cX4_digest 49 = .ok (.i2l, 1) := by decide +kernel
theorem dX4_digest_50 : decode cX4_digest 50 = .ok (.invokestatic 203, 3) := by decide +kernel
theorem dX4_digest_53 : decode cX4_digest 53 = .ok (.lstore_n 1, 1) := by decide +kernel
theorem dX4_digest_54 : decode cX4_digest 54 = .ok (.lload_n 1, 1) := by decide +kernel
theorem dX4_digest_55 : decode cX4_digest 55 = .ok (.aload_n 0, 1) := by decide +kernel
theorem dX4_digest_56 : decode cX4_digest 56 = .ok (.invokevirtual 217, 3) := by decide +kernel
theorem dX4_digest_59 : decode cX4_digest 59 = .ok (.i2l, 1) := by decide +kernel
theorem dX4_digest_60 : decode cX4_digest 60 = .ok (.invokestatic 203, 3) := by decide +kernel
theorem dX4_digest_63 : decode cX4_digest 63 = .ok (.lstore_n 1, 1) := by decide +kernel
theorem dX4_digest_64 : decode cX4_digest 64 = .ok (.iconst 0, 1) := by decide +kernel
theorem dX4_digest_65 : decode cX4_digest 65 = .ok (.istore_n 3, 1) := by decide +kernel
theorem dX4_digest_66 : decode cX4_digest 66 = .ok (.iload_n 3, 1) := by decide +kernel
theorem dX4_digest_67 : decode cX4_digest 67 = .ok (.aload_n 0, 1) := by decide +kernel
theorem dX4_digest_68 : decode cX4_digest 68 = .ok (.getfield 10, 3) := by decide +kernel
theorem dX4_digest_71 : decode cX4_digest 71 = .ok (.getfield 128, 3) := by decide +kernel
theorem dX4_digest_74 : decode cX4_digest 74 = .ok (.if_icmp .ge 65, 3) := by decide +kernel
theorem dX4_digest_77 : decode cX4_digest 77 = .ok (.lload_n 1, 1) := by decide +kernel
theorem dX4_digest_78 : decode cX4_digest 78 = .ok (.aload_n 0, 1) := by decide +kernel
theorem dX4_digest_79 : decode cX4_digest 79 = .ok (.iload_n 3, 1) := by decide +kernel
theorem dX4_digest_80 : decode cX4_digest 80 = .ok (.invokevirtual 220, 3) := by decide +kernel
theorem dX4_digest_83 : decode cX4_digest 83 = .ok (.i2l, 1) := by decide +kernel
theorem dX4_digest_84 : decode cX4_digest 84 = .ok (.invokestatic 203, 3) := by decide +kernel
theorem dX4_digest_87 : decode cX4_digest 87 = .ok (.lstore_n 1, 1) := by decide +kernel
theorem dX4_digest_88 : decode cX4_digest 88 = .ok (.lload_n 1, 1) := by decide +kernel
theorem dX4_digest_89 : decode cX4_digest 89 = .ok (.aload_n 0, 1) := by decide +kernel
theorem dX4_digest_90 : decode cX4_digest 90 = .ok (.iload_n 3, 1) := by decide +kernel
theorem dX4_digest_91 : decode cX4_digest 91 = .ok (.invokevirtual 223, 3) := by decide +kernel
theorem dX4_digest_94 : decode cX4_digest 94 = .ok (.i2l, 1) := by decide +kernel
theorem dX4_digest_95 : decode cX4_digest 95 = .ok (.invokestatic 203, 3) := by decide +kernel
theorem dX4_digest_98 : decode cX4_digest 98 = .ok (.lstore_n 1, 1) := by decide +kernel
theorem dX4_digest_99 : decode cX4_digest 99 = .ok (.lload_n 1, 1) := by decide +kernel
theorem dX4_digest_100 : decode cX4_digest 100 = .ok (.aload_n 0, 1) := by decide +kernel
theorem dX4_digest_101 : decode cX4_digest 101 = .ok (.iload_n 3, 1) := by decide +kernel
theorem dX4_digest_102 : decode cX4_digest 102 = .ok (.invokevirtual 226, 3) := by decide +kernel
theorem dX4_digest_105 : decode cX4_digest 105 = .ok (.i2l, 1) := by decide +kernel
theorem dX4_digest_106 : decode cX4_digest 106 = .ok (.invokestatic 203, 3) := by decide +kernel
theorem dX4_digest_109 : decode cX4_digest 109 = .ok (.lstore_n 1, 1) := by decide +kernel
theorem dX4_digest_110 : decode cX4_digest 110 = .ok (.lload_n 1, 1) := by decide +kernel
theorem dX4_digest_111 : decode cX4_digest 111 = .ok (.aload_n 0, 1) := by decide +kernel
theorem dX4_digest_112 : decode cX4_digest 112 = .ok (.iload_n 3, 1) := by decide +kernel
theorem dX4_digest_113 : decode cX4_digest 113 = .ok (.invokevirtual 229, 3) := by decide +kernel
theorem dX4_digest_116 : decode cX4_digest 116 = .ok (.i2l, 1) := by decide +kernel
theorem dX4_digest_117 : decode cX4_digest 117 = .ok (.invokestatic 203, 3) := by decide +kernel
theorem dX4_digest_120 : decode cX4_digest 120 = .ok (.lstore_n 1, 1) := by decide +kernel
theorem dX4_digest_121 : decode cX4_digest 121 = .ok (.lload_n 1, 1) := by decide +kernel
theorem dX4_digest_122 : decode cX4_digest 122 = .ok (.aload_n 0, 1) := by decide +kernel
theorem dX4_digest_123 : decode cX4_digest 123 = .ok (.iconst 0, 1) := by decide +kernel
theorem dX4_digest_124 : decode cX4_digest 124 = .ok (.iload_n 3, 1) := by decide +kernel
theorem dX4_digest_125 : decode cX4_digest 125 = .ok (.invokevirtual 177, 3) := by decide +kernel
theorem dX4_digest_128 : decode cX4_digest 128 = .ok (.i2l, 1) := by decide +kernel
theorem dX4_digest_129 : decode cX4_digest 129 = .ok (.invokestatic 203, 3) := by decide +kernel
theorem dX4_digest_132 : decode cX4_digest 132 = .ok (.lstore_n 1, 1) := by decide +kernel
theorem dX4_digest_133 : decode cX4_digest 133 = .ok (.iinc 3 1, 3) := by decide +kernel
theorem dX4_digest_136 : decode cX4_digest 136 = .ok (.goto (-70), 3) := by decide +kernel
theorem dX4_digest_139 : decode cX4_digest 139 = .ok (.iconst 0, 1) := by decide +kernel
theorem dX4_digest_140 : decode cX4_digest 140 = .ok (.istore_n 3, 1) := by decide +kernel
theorem dX4_digest_141 : decode cX4_digest 141 = .ok (.iload_n 3, 1) := by decide +kernel
theorem dX4_digest_142 : decode cX4_digest 142 = .ok (.aload_n 0, 1) := by decide +kernel
theorem dX4_digest_143 : decode cX4_digest 143 = .ok (.getfield 10, 3) := by decide +kernel
theorem dX4_digest_146 : decode cX4_digest 146 = .ok (.getfield 128, 3) := by decide +kernel
theorem dX4_digest_149 : decode cX4_digest 149 = .ok (.iconst 1, 1) := by decide +kernel
theorem dX4_digest_150 : decode cX4_digest 150 = .ok (.isub, 1) := by decide +kernel
theorem dX4_digest_151 : decode cX4_digest 151 = .ok (.if_icmp .ge 38, 3) := by decide +kernel
theorem dX4_digest_154 : decode cX4_digest 154 = .ok (.lload_n 1, 1) := by decide +kernel
theorem dX4_digest_155 : decode cX4_digest 155 = .ok (.aload_n 0, 1) := by decide +kernel
theorem dX4_digest_156 : decode cX4_digest 156 = .ok (.iload_n 3, 1) := by decide +kernel
theorem dX4_digest_157 : decode cX4_digest 157 = .ok (.invokevirtual 232, 3) := by decide +kernel
theorem dX4_digest_160 : decode cX4_digest 160 = .ok (.i2l, 1) := by decide +kernel
theorem dX4_digest_161 : decode cX4_digest 161 = .ok (.invokestatic 203, 3) := by decide +kernel
theorem dX4_digest_164 : decode cX4_digest 164 = .ok (.lstore_n 1, 1) := by decide +kernel
theorem dX4_digest_165 : decode cX4_digest 165 = .ok (.lload_n 1, 1) := by decide +kernel
theorem dX4_digest_166 : decode cX4_digest 166 = .ok (.aload_n 0, 1) := by decide +kernel
theorem dX4_digest_167 : decode cX4_digest 167 = .ok (.iload_n 3, 1) := by decide +kernel
theorem dX4_digest_168 : decode cX4_digest 168 = .ok (.invokevirtual 235, 3) := by decide +kernel
theorem dX4_digest_171 : decode cX4_digest 171 = .ok (.ifCond .eq 7, 3) := by decide +kernel
theorem dX4_digest_174 : decode cX4_digest 174 = .ok (.lconst 1, 1) := by decide +kernel
theorem dX4_digest_175 : decode cX4_digest 175 = .ok (.goto 4, 3) := by decide +kernel
theorem dX4_digest_178 : decode cX4_digest 178 = .ok (.lconst 0, 1) := by decide +kernel
theorem dX4_digest_179 : decode cX4_digest 179 = .ok (.invokestatic 203, 3) := by decide +kernel
theorem dX4_digest_182 : decode cX4_digest 182 = .ok (.lstore_n 1, 1) := by decide +kernel
theorem dX4_digest_183 : decode cX4_digest 183 = .ok (.iinc 3 1, 3) := by decide +kernel
theorem dX4_digest_186 : decode cX4_digest 186 = .ok (.goto (-45), 3) := by decide +kernel
theorem dX4_digest_189 : decode cX4_digest 189 = .ok (.iconst 0, 1) := by decide +kernel
theorem dX4_digest_190 : decode cX4_digest 190 = .ok (.istore_n 3, 1) := by decide +kernel
theorem dX4_digest_191 : decode cX4_digest 191 = .ok (.iload_n 3, 1) := by decide +kernel
theorem dX4_digest_192 : decode cX4_digest 192 = .ok (.aload_n 0, 1) := by decide +kernel
theorem dX4_digest_193 : decode cX4_digest 193 = .ok (.getfield 10, 3) := by decide +kernel
theorem dX4_digest_196 : decode cX4_digest 196 = .ok (.getfield 76, 3) := by decide +kernel
theorem dX4_digest_199 : decode cX4_digest 199 = .ok (.if_icmp .ge 27, 3) := by decide +kernel
theorem dX4_digest_202 : decode cX4_digest 202 = .ok (.lload_n 1, 1) := by decide +kernel
theorem dX4_digest_203 : decode cX4_digest 203 = .ok (.aload_n 0, 1) := by decide +kernel
theorem dX4_digest_204 : decode cX4_digest 204 = .ok (.iload_n 3, 1) := by decide +kernel
theorem dX4_digest_205 : decode cX4_digest 205 = .ok (.invokevirtual 238, 3) := by decide +kernel
theorem dX4_digest_208 : decode cX4_digest 208 = .ok (.ifCond .eq 7, 3) := by decide +kernel
theorem dX4_digest_211 : decode cX4_digest 211 = .ok (.lconst 1, 1) := by decide +kernel
theorem dX4_digest_212 : decode cX4_digest 212 = .ok (.goto 4, 3) := by decide +kernel
theorem dX4_digest_215 : decode cX4_digest 215 = .ok (.lconst 0, 1) := by decide +kernel
theorem dX4_digest_216 : decode cX4_digest 216 = .ok (.invokestatic 203, 3) := by decide +kernel
theorem dX4_digest_219 : decode cX4_digest 219 = .ok (.lstore_n 1, 1) := by decide +kernel
theorem dX4_digest_220 : decode cX4_digest 220 = .ok (.iinc 3 1, 3) := by decide +kernel
theorem dX4_digest_223 : decode cX4_digest 223 = .ok (.goto (-32), 3) := by decide +kernel
theorem dX4_digest_226 : decode cX4_digest 226 = .ok (.iconst 0, 1) := by decide +kernel
theorem dX4_digest_227 : decode cX4_digest 227 = .ok (.istore_n 3, 1) := by decide +kernel
theorem dX4_digest_228 : decode cX4_digest 228 = .ok (.iload_n 3, 1) := by decide +kernel
theorem dX4_digest_229 : decode cX4_digest 229 = .ok (.aload_n 0, 1) := by decide +kernel
theorem dX4_digest_230 : decode cX4_digest 230 = .ok (.getfield 34, 3) := by decide +kernel
theorem dX4_digest_233 : decode cX4_digest 233 = .ok (.if_icmp .ge 16, 3) := by decide +kernel
theorem dX4_digest_236 : decode cX4_digest 236 = .ok (.aload_n 0, 1) := by decide +kernel
theorem dX4_digest_237 : decode cX4_digest 237 = .ok (.lload_n 1, 1) := by decide +kernel
theorem dX4_digest_238 : decode cX4_digest 238 = .ok (.iload_n 3, 1) := by decide +kernel
theorem dX4_digest_239 : decode cX4_digest 239 = .ok (.invokevirtual 241, 3) := by decide +kernel
theorem dX4_digest_242 : decode cX4_digest 242 = .ok (.lstore_n 1, 1) := by decide +kernel
theorem dX4_digest_243 : decode cX4_digest 243 = .ok (.iinc 3 1, 3) := by decide +kernel
theorem dX4_digest_246 : decode cX4_digest 246 = .ok (.goto (-18), 3) := by decide +kernel
theorem dX4_digest_249 : decode cX4_digest 249 = .ok (.lload_n 1, 1) := by decide +kernel
theorem dX4_digest_250 : decode cX4_digest 250 = .ok (.lreturn, 1) := by decide +kernel
theorem dX4_withRumour_0 : decode cX4_withRumour 0 = .ok (.lload_n 1, 1) := by decide +kernel
theorem dX4_withRumour_1 : decode cX4_withRumour 1 = .ok (.lstore 4, 2) := by decide +kernel
theorem dX4_withRumour_3 : decode cX4_withRumour 3 = .ok (.lload 4, 2) := by decide +kernel
theorem dX4_withRumour_5 : decode cX4_withRumour 5 = .ok (.aload_n 0, 1) := by decide +kernel
theorem dX4_withRumour_6 : decode cX4_withRumour 6 = .ok (.iload_n 3, 1) := by decide +kernel
theorem dX4_withRumour_7 : decode cX4_withRumour 7 = .ok (.invokevirtual 245, 3) := by decide +kernel
theorem dX4_withRumour_10 : decode cX4_withRumour 10 = .ok (.i2l, 1) := by decide +kernel
theorem dX4_withRumour_11 : decode cX4_withRumour 11 = .ok (.invokestatic 203, 3) := by decide +kernel
theorem dX4_withRumour_14 : decode cX4_withRumour 14 = .ok (.lstore 4, 2) := by decide +kernel
theorem dX4_withRumour_16 : decode cX4_withRumour 16 = .ok (.lload 4, 2) := by decide +kernel
theorem dX4_withRumour_18 : decode cX4_withRumour 18 = .ok (.aload_n 0, 1) := by decide +kernel
theorem dX4_withRumour_19 : decode cX4_withRumour 19 = .ok (.iload_n 3, 1) := by decide +kernel
theorem dX4_withRumour_20 : decode cX4_withRumour 20 = .ok (.invokevirtual 248, 3) := by decide +kernel
theorem dX4_withRumour_23 : decode cX4_withRumour 23 = .ok (.i2l, 1) := by decide +kernel
theorem dX4_withRumour_24 : decode cX4_withRumour 24 = .ok (.invokestatic 203, 3) := by decide +kernel
theorem dX4_withRumour_27 : decode cX4_withRumour 27 = .ok (.lstore 4, 2) := by decide +kernel
theorem dX4_withRumour_29 : decode cX4_withRumour 29 = .ok (.lload 4, 2) := by decide +kernel
theorem dX4_withRumour_31 : decode cX4_withRumour 31 = .ok (.aload_n 0, 1) := by decide +kernel
theorem dX4_withRumour_32 : decode cX4_withRumour 32 = .ok (.iload_n 3, 1) := by decide +kernel
theorem dX4_withRumour_33 : decode cX4_withRumour 33 = .ok (.invokevirtual 251, 3) := by decide +kernel
theorem dX4_withRumour_36 : decode cX4_withRumour 36 = .ok (.i2l, 1) := by decide +kernel
theorem dX4_withRumour_37 : decode cX4_withRumour 37 = .ok (.invokestatic 203, 3) := by decide +kernel
theorem dX4_withRumour_40 : decode cX4_withRumour 40 = .ok (.lstore 4, 2) := by decide +kernel
theorem dX4_withRumour_42 : decode cX4_withRumour 42 = .ok (.lload 4, 2) := by decide +kernel
theorem dX4_withRumour_44 : decode cX4_withRumour 44 = .ok (.aload_n 0, 1) := by decide +kernel
theorem dX4_withRumour_45 : decode cX4_withRumour 45 = .ok (.iload_n 3, 1) := by decide +kernel
theorem dX4_withRumour_46 : decode cX4_withRumour 46 = .ok (.invokevirtual 254, 3) := by decide +kernel
theorem dX4_withRumour_49 : decode cX4_withRumour 49 = .ok (.i2l, 1) := by decide +kernel
theorem dX4_withRumour_50 : decode cX4_withRumour 50 = .ok (.invokestatic 203, 3) := by decide +kernel
theorem dX4_withRumour_53 : decode cX4_withRumour 53 = .ok (.lstore 4, 2) := by decide +kernel
theorem dX4_withRumour_55 : decode cX4_withRumour 55 = .ok (.lload 4, 2) := by decide +kernel
theorem dX4_withRumour_57 : decode cX4_withRumour 57 = .ok (.aload_n 0, 1) := by decide +kernel
theorem dX4_withRumour_58 : decode cX4_withRumour 58 = .ok (.iload_n 3, 1) := by decide +kernel
theorem dX4_withRumour_59 : decode cX4_withRumour 59 = .ok (.invokevirtual 257, 3) := by decide +kernel
theorem dX4_withRumour_62 : decode cX4_withRumour 62 = .ok (.i2l, 1) := by decide +kernel
theorem dX4_withRumour_63 : decode cX4_withRumour 63 = .ok (.invokestatic 203, 3) := by decide +kernel
theorem dX4_withRumour_66 : decode cX4_withRumour 66 = .ok (.lstore 4, 2) := by decide +kernel
theorem dX4_withRumour_68 : decode cX4_withRumour 68 = .ok (.lload 4, 2) := by decide +kernel
theorem dX4_withRumour_70 : decode cX4_withRumour 70 = .ok (.aload_n 0, 1) := by decide +kernel
theorem dX4_withRumour_71 : decode cX4_withRumour 71 = .ok (.iload_n 3, 1) := by decide +kernel
theorem dX4_withRumour_72 : decode cX4_withRumour 72 = .ok (.invokevirtual 260, 3) := by decide +kernel
theorem dX4_withRumour_75 : decode cX4_withRumour 75 = .ok (.i2l, 1) := by decide +kernel
theorem dX4_withRumour_76 : decode cX4_withRumour 76 = .ok (.invokestatic 203, 3) := by decide +kernel
theorem dX4_withRumour_79 : decode cX4_withRumour 79 = .ok (.lstore 4, 2) := by decide +kernel
theorem dX4_withRumour_81 : decode cX4_withRumour 81 = .ok (.lload 4, 2) := by decide +kernel
theorem dX4_withRumour_83 : decode cX4_withRumour 83 = .ok (.aload_n 0, 1) := by decide +kernel
theorem dX4_withRumour_84 : decode cX4_withRumour 84 = .ok (.iload_n 3, 1) := by decide +kernel
theorem dX4_withRumour_85 : decode cX4_withRumour 85 = .ok (.invokevirtual 194, 3) := by decide +kernel
theorem dX4_withRumour_88 : decode cX4_withRumour 88 = .ok (.i2l, 1) := by decide +kernel
theorem dX4_withRumour_89 : decode cX4_withRumour 89 = .ok (.invokestatic 203, 3) := by decide +kernel
theorem dX4_withRumour_92 : decode cX4_withRumour 92 = .ok (.lstore 4, 2) := by decide +kernel
theorem dX4_withRumour_94 : decode cX4_withRumour 94 = .ok (.lload 4, 2) := by decide +kernel
theorem dX4_withRumour_96 : decode cX4_withRumour 96 = .ok (.aload_n 0, 1) := by decide +kernel
theorem dX4_withRumour_97 : decode cX4_withRumour 97 = .ok (.iload_n 3, 1) := by decide +kernel
theorem dX4_withRumour_98 : decode cX4_withRumour 98 = .ok (.invokevirtual 263, 3) := by decide +kernel
theorem dX4_withRumour_101 : decode cX4_withRumour 101 = .ok (.i2l, 1) := by decide +kernel
theorem dX4_withRumour_102 : decode cX4_withRumour 102 = .ok (.invokestatic 203, 3) := by decide +kernel
theorem dX4_withRumour_105 : decode cX4_withRumour 105 = .ok (.lstore 4, 2) := by decide +kernel
theorem dX4_withRumour_107 : decode cX4_withRumour 107 = .ok (.lload 4, 2) := by decide +kernel
theorem dX4_withRumour_109 : decode cX4_withRumour 109 = .ok (.aload_n 0, 1) := by decide +kernel
theorem dX4_withRumour_110 : decode cX4_withRumour 110 = .ok (.iload_n 3, 1) := by decide +kernel
theorem dX4_withRumour_111 : decode cX4_withRumour 111 = .ok (.invokevirtual 266, 3) := by decide +kernel
theorem dX4_withRumour_114 : decode cX4_withRumour 114 = .ok (.i2l, 1) := by decide +kernel
theorem dX4_withRumour_115 : decode cX4_withRumour 115 = .ok (.invokestatic 203, 3) := by decide +kernel
theorem dX4_withRumour_118 : decode cX4_withRumour 118 = .ok (.lstore 4, 2) := by decide +kernel
theorem dX4_withRumour_120 : decode cX4_withRumour 120 = .ok (.iconst 0, 1) := by decide +kernel
theorem dX4_withRumour_121 : decode cX4_withRumour 121 = .ok (.istore 6, 2) := by decide +kernel
theorem dX4_withRumour_123 : decode cX4_withRumour 123 = .ok (.iload 6, 2) := by decide +kernel
theorem dX4_withRumour_125 : decode cX4_withRumour 125 = .ok (.aload_n 0, 1) := by decide +kernel
theorem dX4_withRumour_126 : decode cX4_withRumour 126 = .ok (.getfield 10, 3) := by decide +kernel
theorem dX4_withRumour_129 : decode cX4_withRumour 129 = .ok (.getfield 128, 3) := by decide +kernel
theorem dX4_withRumour_132 : decode cX4_withRumour 132 = .ok (.if_icmp .ge 69, 3) := by decide +kernel
theorem dX4_withRumour_135 : decode cX4_withRumour 135 = .ok (.lload 4, 2) := by decide +kernel
theorem dX4_withRumour_137 : decode cX4_withRumour 137 = .ok (.aload_n 0, 1) := by decide +kernel
theorem dX4_withRumour_138 : decode cX4_withRumour 138 = .ok (.iload_n 3, 1) := by decide +kernel
theorem dX4_withRumour_139 : decode cX4_withRumour 139 = .ok (.iload 6, 2) := by decide +kernel
theorem dX4_withRumour_141 : decode cX4_withRumour 141 = .ok (.invokevirtual 269, 3) := by decide +kernel
theorem dX4_withRumour_144 : decode cX4_withRumour 144 = .ok (.i2l, 1) := by decide +kernel
theorem dX4_withRumour_145 : decode cX4_withRumour 145 = .ok (.invokestatic 203, 3) := by decide +kernel
theorem dX4_withRumour_148 : decode cX4_withRumour 148 = .ok (.lstore 4, 2) := by decide +kernel
theorem dX4_withRumour_150 : decode cX4_withRumour 150 = .ok (.lload 4, 2) := by decide +kernel
theorem dX4_withRumour_152 : decode cX4_withRumour 152 = .ok (.aload_n 0, 1) := by decide +kernel
theorem dX4_withRumour_153 : decode cX4_withRumour 153 = .ok (.iload_n 3, 1) := by decide +kernel
theorem dX4_withRumour_154 : decode cX4_withRumour 154 = .ok (.iload 6, 2) := by decide +kernel
theorem dX4_withRumour_156 : decode cX4_withRumour 156 = .ok (.invokevirtual 272, 3) := by decide +kernel
theorem dX4_withRumour_159 : decode cX4_withRumour 159 = .ok (.i2l, 1) := by decide +kernel
theorem dX4_withRumour_160 : decode cX4_withRumour 160 = .ok (.invokestatic 203, 3) := by decide +kernel
theorem dX4_withRumour_163 : decode cX4_withRumour 163 = .ok (.lstore 4, 2) := by decide +kernel
theorem dX4_withRumour_165 : decode cX4_withRumour 165 = .ok (.lload 4, 2) := by decide +kernel
theorem dX4_withRumour_167 : decode cX4_withRumour 167 = .ok (.aload_n 0, 1) := by decide +kernel
theorem dX4_withRumour_168 : decode cX4_withRumour 168 = .ok (.iload_n 3, 1) := by decide +kernel
theorem dX4_withRumour_169 : decode cX4_withRumour 169 = .ok (.iload 6, 2) := by decide +kernel
theorem dX4_withRumour_171 : decode cX4_withRumour 171 = .ok (.invokevirtual 275, 3) := by decide +kernel
theorem dX4_withRumour_174 : decode cX4_withRumour 174 = .ok (.i2l, 1) := by decide +kernel
theorem dX4_withRumour_175 : decode cX4_withRumour 175 = .ok (.invokestatic 203, 3) := by decide +kernel
theorem dX4_withRumour_178 : decode cX4_withRumour 178 = .ok (.lstore 4, 2) := by decide +kernel
theorem dX4_withRumour_180 : decode cX4_withRumour 180 = .ok (.lload 4, 2) := by decide +kernel
theorem dX4_withRumour_182 : decode cX4_withRumour 182 = .ok (.aload_n 0, 1) := by decide +kernel
theorem dX4_withRumour_183 : decode cX4_withRumour 183 = .ok (.iload_n 3, 1) := by decide +kernel
theorem dX4_withRumour_184 : decode cX4_withRumour 184 = .ok (.iload 6, 2) := by decide +kernel
theorem dX4_withRumour_186 : decode cX4_withRumour 186 = .ok (.invokevirtual 278, 3) := by decide +kernel
theorem dX4_withRumour_189 : decode cX4_withRumour 189 = .ok (.i2l, 1) := by decide +kernel
theorem dX4_withRumour_190 : decode cX4_withRumour 190 = .ok (.invokestatic 203, 3) := by decide +kernel
theorem dX4_withRumour_193 : decode cX4_withRumour 193 = .ok (.lstore 4, 2) := by decide +kernel
theorem dX4_withRumour_195 : decode cX4_withRumour 195 = .ok (.iinc 6 1, 3) := by decide +kernel
theorem dX4_withRumour_198 : decode cX4_withRumour 198 = .ok (.goto (-75), 3) := by decide +kernel
theorem dX4_withRumour_201 : decode cX4_withRumour 201 = .ok (.lload 4, 2) := by decide +kernel
theorem dX4_withRumour_203 : decode cX4_withRumour 203 = .ok (.lreturn, 1) := by decide +kernel
theorem dX4_mixed_0 : decode cX4_mixed 0 = .ok (.lload_n 0, 1) := by decide +kernel
theorem dX4_mixed_1 : decode cX4_mixed 1 = .ok (.ldc2_w 281, 3) := by decide +kernel
theorem dX4_mixed_4 : decode cX4_mixed 4 = .ok (.lmul, 1) := by decide +kernel
theorem dX4_mixed_5 : decode cX4_mixed 5 = .ok (.lload_n 2, 1) := by decide +kernel
theorem dX4_mixed_6 : decode cX4_mixed 6 = .ok (.ladd, 1) := by decide +kernel
theorem dX4_mixed_7 : decode cX4_mixed 7 = .ok (.lreturn, 1) := by decide +kernel
theorem dX4_needFloor_0 : decode cX4_needFloor 0 = .ok (.iload_n 1, 1) := by decide +kernel
theorem dX4_needFloor_1 : decode cX4_needFloor 1 = .ok (.ifCond .lt 14, 3) := by decide +kernel
theorem dX4_needFloor_4 : decode cX4_needFloor 4 = .ok (.iload_n 1, 1) := by decide +kernel
theorem dX4_needFloor_5 : decode cX4_needFloor 5 = .ok (.aload_n 0, 1) := by decide +kernel
theorem dX4_needFloor_6 : decode cX4_needFloor 6 = .ok (.getfield 10, 3) := by decide +kernel
theorem dX4_needFloor_9 : decode cX4_needFloor 9 = .ok (.getfield 128, 3) := by decide +kernel
theorem dX4_needFloor_12 : decode cX4_needFloor 12 = .ok (.if_icmp .lt 14, 3) := by decide +kernel
theorem dX4_needFloor_15 : decode cX4_needFloor 15 = .ok (.new 283, 3) := by decide +kernel
theorem dX4_needFloor_18 : decode cX4_needFloor 18 = .ok (.dup, 1) := by decide +kernel
theorem dX4_needFloor_19 : decode cX4_needFloor 19 = .ok (.ldc_w 285, 3) := by decide +kernel
theorem dX4_needFloor_22 : decode cX4_needFloor 22 = .ok (.invokespecial 287, 3) := by decide +kernel
theorem dX4_needFloor_25 : decode cX4_needFloor 25 = .ok (.athrow, 1) := by decide +kernel
theorem dX4_needFloor_26 : decode cX4_needFloor 26 = .ok (.return_, 1) := by decide +kernel
theorem dX4_needStairs_0 : decode cX4_needStairs 0 = .ok (.iload_n 1, 1) := by decide +kernel
theorem dX4_needStairs_1 : decode cX4_needStairs 1 = .ok (.ifCond .lt 16, 3) := by decide +kernel
theorem dX4_needStairs_4 : decode cX4_needStairs 4 = .ok (.iload_n 1, 1) := by decide +kernel
theorem dX4_needStairs_5 : decode cX4_needStairs 5 = .ok (.aload_n 0, 1) := by decide +kernel
theorem dX4_needStairs_6 : decode cX4_needStairs 6 = .ok (.getfield 10, 3) := by decide +kernel
theorem dX4_needStairs_9 : decode cX4_needStairs 9 = .ok (.getfield 128, 3) := by decide +kernel
theorem dX4_needStairs_12 : decode cX4_needStairs 12 = .ok (.iconst 1, 1) := by decide +kernel
theorem dX4_needStairs_13 : decode cX4_needStairs 13 = .ok (.isub, 1) := by decide +kernel
theorem dX4_needStairs_14 : decode cX4_needStairs 14 = .ok (.if_icmp .lt 14, 3) := by decide +kernel
theorem dX4_needStairs_17 : decode cX4_needStairs 17 = .ok (.new 283, 3) := by decide +kernel
theorem dX4_needStairs_20 : decode cX4_needStairs 20 = .ok (.dup, 1) := by decide +kernel
theorem dX4_needStairs_21 : decode cX4_needStairs 21 = .ok (.ldc_w 288, 3) := by decide +kernel
theorem dX4_needStairs_24 : decode cX4_needStairs 24 = .ok (.invokespecial 287, 3) := by decide +kernel
theorem dX4_needStairs_27 : decode cX4_needStairs 27 = .ok (.athrow, 1) := by decide +kernel
theorem dX4_needStairs_28 : decode cX4_needStairs 28 = .ok (.return_, 1) := by decide +kernel
theorem dX4_needLift_0 : decode cX4_needLift 0 = .ok (.iload_n 1, 1) := by decide +kernel
theorem dX4_needLift_1 : decode cX4_needLift 1 = .ok (.ifCond .lt 14, 3) := by decide +kernel
theorem dX4_needLift_4 : decode cX4_needLift 4 = .ok (.iload_n 1, 1) := by decide +kernel
theorem dX4_needLift_5 : decode cX4_needLift 5 = .ok (.aload_n 0, 1) := by decide +kernel
theorem dX4_needLift_6 : decode cX4_needLift 6 = .ok (.getfield 10, 3) := by decide +kernel
theorem dX4_needLift_9 : decode cX4_needLift 9 = .ok (.getfield 76, 3) := by decide +kernel
theorem dX4_needLift_12 : decode cX4_needLift 12 = .ok (.if_icmp .lt 14, 3) := by decide +kernel
theorem dX4_needLift_15 : decode cX4_needLift 15 = .ok (.new 283, 3) := by decide +kernel
theorem dX4_needLift_18 : decode cX4_needLift 18 = .ok (.dup, 1) := by decide +kernel
theorem dX4_needLift_19 : decode cX4_needLift 19 = .ok (.ldc_w 290, 3) := by decide +kernel
theorem dX4_needLift_22 : decode cX4_needLift 22 = .ok (.invokespecial 287, 3) := by decide +kernel
theorem dX4_needLift_25 : decode cX4_needLift 25 = .ok (.athrow, 1) := by decide +kernel
theorem dX4_needLift_26 : decode cX4_needLift 26 = .ok (.return_, 1) := by decide +kernel
theorem dX4_needRumour_0 : decode cX4_needRumour 0 = .ok (.iload_n 1, 1) := by decide +kernel
theorem dX4_needRumour_1 : decode cX4_needRumour 1 = .ok (.ifCond .lt 11, 3) := by decide +kernel
theorem dX4_needRumour_4 : decode cX4_needRumour 4 = .ok (.iload_n 1, 1) := by decide +kernel
theorem dX4_needRumour_5 : decode cX4_needRumour 5 = .ok (.aload_n 0, 1) := by decide +kernel
theorem dX4_needRumour_6 : decode cX4_needRumour 6 = .ok (.getfield 34, 3) := by decide +kernel
theorem dX4_needRumour_9 : decode cX4_needRumour 9 = .ok (.if_icmp .lt 14, 3) := by decide +kernel
theorem dX4_needRumour_12 : decode cX4_needRumour 12 = .ok (.new 283, 3) := by decide +kernel
theorem dX4_needRumour_15 : decode cX4_needRumour 15 = .ok (.dup, 1) := by decide +kernel
theorem dX4_needRumour_16 : decode cX4_needRumour 16 = .ok (.ldc_w 292, 3) := by decide +kernel
theorem dX4_needRumour_19 : decode cX4_needRumour 19 = .ok (.invokespecial 287, 3) := by decide +kernel
theorem dX4_needRumour_22 : decode cX4_needRumour 22 = .ok (.athrow, 1) := by decide +kernel
theorem dX4_needRumour_23 : decode cX4_needRumour 23 = .ok (.return_, 1) := by decide +kernel
theorem dX4_needArgument_0 : decode cX4_needArgument 0 = .ok (.iload_n 0, 1) := by decide +kernel
theorem dX4_needArgument_1 : decode cX4_needArgument 1 = .ok (.iload_n 1, 1) := by decide +kernel
theorem dX4_needArgument_2 : decode cX4_needArgument 2 = .ok (.if_icmp .lt 8, 3) := by decide +kernel
theorem dX4_needArgument_5 : decode cX4_needArgument 5 = .ok (.iload_n 0, 1) := by decide +kernel
theorem dX4_needArgument_6 : decode cX4_needArgument 6 = .ok (.iload_n 2, 1) := by decide +kernel
theorem dX4_needArgument_7 : decode cX4_needArgument 7 = .ok (.if_icmp .le 14, 3) := by decide +kernel
theorem dX4_needArgument_10 : decode cX4_needArgument 10 = .ok (.new 294, 3) := by decide +kernel
theorem dX4_needArgument_13 : decode cX4_needArgument 13 = .ok (.dup, 1) := by decide +kernel
theorem dX4_needArgument_14 : decode cX4_needArgument 14 = .ok (.ldc_w 296, 3) := by decide +kernel
theorem dX4_needArgument_17 : decode cX4_needArgument 17 = .ok (.invokespecial 298, 3) := by decide +kernel
theorem dX4_needArgument_20 : decode cX4_needArgument 20 = .ok (.athrow, 1) := by decide +kernel
theorem dX4_needArgument_21 : decode cX4_needArgument 21 = .ok (.return_, 1) := by decide +kernel
theorem dX5_init_0 : decode cX5_init 0 = .ok (.aload_n 0, 1) := by decide +kernel
theorem dX5_init_1 : decode cX5_init 1 = .ok (.invokespecial 1, 3) := by decide +kernel
theorem dX5_init_4 : decode cX5_init 4 = .ok (.aload_n 0, 1) := by decide +kernel
theorem dX5_init_5 : decode cX5_init 5 = .ok (.iconst 0, 1) := by decide +kernel
theorem dX5_init_6 : decode cX5_init 6 = .ok (.anewarray 7, 3) := by decide +kernel
theorem dX5_init_9 : decode cX5_init 9 = .ok (.putfield 9, 3) := by decide +kernel
theorem dX5_init_12 : decode cX5_init 12 = .ok (.aload_n 0, 1) := by decide +kernel
theorem dX5_init_13 : decode cX5_init 13 = .ok (.iload_n 1, 1) := by decide +kernel
theorem dX5_init_14 : decode cX5_init 14 = .ok (.newarray .int, 2) := by decide +kernel
theorem dX5_init_16 : decode cX5_init 16 = .ok (.putfield 15, 3) := by decide +kernel
theorem dX5_init_19 : decode cX5_init 19 = .ok (.aload_n 0, 1) := by decide +kernel
theorem dX5_init_20 : decode cX5_init 20 = .ok (.iload_n 1, 1) := by decide +kernel
theorem dX5_init_21 : decode cX5_init 21 = .ok (.invokestatic 18, 3) := by decide +kernel
theorem dX5_init_24 : decode cX5_init 24 = .ok (.putfield 22, 3) := by decide +kernel
theorem dX5_init_27 : decode cX5_init 27 = .ok (.aload_n 0, 1) := by decide +kernel
theorem dX5_init_28 : decode cX5_init 28 = .ok (.iload_n 1, 1) := by decide +kernel
theorem dX5_init_29 : decode cX5_init 29 = .ok (.invokestatic 18, 3) := by decide +kernel
theorem dX5_init_32 : decode cX5_init 32 = .ok (.putfield 25, 3) := by decide +kernel
theorem dX5_init_35 : decode cX5_init 35 = .ok (.aload_n 0, 1) := by decide +kernel
theorem dX5_init_36 : decode cX5_init 36 = .ok (.iload_n 1, 1) := by decide +kernel
theorem dX5_init_37 : decode cX5_init 37 = .ok (.invokestatic 18, 3) := by decide +kernel
theorem dX5_init_40 : decode cX5_init 40 = .ok (.putfield 28, 3) := by decide +kernel
theorem dX5_init_43 : decode cX5_init 43 = .ok (.aload_n 0, 1) := by decide +kernel
theorem dX5_init_44 : decode cX5_init 44 = .ok (.iload_n 1, 1) := by decide +kernel
theorem dX5_init_45 : decode cX5_init 45 = .ok (.invokestatic 18, 3) := by decide +kernel
theorem dX5_init_48 : decode cX5_init 48 = .ok (.putfield 31, 3) := by decide +kernel
theorem dX5_init_51 : decode cX5_init 51 = .ok (.aload_n 0, 1) := by decide +kernel
theorem dX5_init_52 : decode cX5_init 52 = .ok (.iload_n 1, 1) := by decide +kernel
theorem dX5_init_53 : decode cX5_init 53 = .ok (.invokestatic 18, 3) := by decide +kernel
theorem dX5_init_56 : decode cX5_init 56 = .ok (.putfield 34, 3) := by decide +kernel
theorem dX5_init_59 : decode cX5_init 59 = .ok (.return_, 1) := by decide +kernel
theorem dX5_none_0 : decode cX5_none 0 = .ok (.iload_n 0, 1) := by decide +kernel
theorem dX5_none_1 : decode cX5_none 1 = .ok (.newarray .int, 2) := by decide +kernel
theorem dX5_none_3 : decode cX5_none 3 = .ok (.astore_n 1, 1) := by decide +kernel
theorem dX5_none_4 : decode cX5_none 4 = .ok (.iconst 0, 1) := by decide +kernel
theorem dX5_none_5 : decode cX5_none 5 = .ok (.istore_n 2, 1) := by decide +kernel
theorem dX5_none_6 : decode cX5_none 6 = .ok (.iload_n 2, 1) := by decide +kernel
theorem dX5_none_7 : decode cX5_none 7 = .ok (.iload_n 0, 1) := by decide +kernel
theorem dX5_none_8 : decode cX5_none 8 = .ok (.if_icmp .ge 13, 3) := by decide +kernel
theorem dX5_none_11 : decode cX5_none 11 = .ok (.aload_n 1, 1) := by decide +kernel
theorem dX5_none_12 : decode cX5_none 12 = .ok (.iload_n 2, 1) := by decide +kernel
theorem dX5_none_13 : decode cX5_none 13 = .ok (.iconst (-1), 1) := by decide +kernel
theorem dX5_none_14 : decode cX5_none 14 = .ok (.iastore, 1) := by decide +kernel
theorem dX5_none_15 : decode cX5_none 15 = .ok (.iinc 2 1, 3) := by decide +kernel
theorem dX5_none_18 : decode cX5_none 18 = .ok (.goto (-12), 3) := by decide +kernel
theorem dX5_none_21 : decode cX5_none 21 = .ok (.aload_n 1, 1) := by decide +kernel
theorem dX5_none_22 : decode cX5_none 22 = .ok (.areturn, 1) := by decide +kernel
theorem dX5_send_0 : decode cX5_send 0 = .ok (.aload_n 0, 1) := by decide +kernel
theorem dX5_send_1 : decode cX5_send 1 = .ok (.getfield 9, 3) := by decide +kernel
theorem dX5_send_4 : decode cX5_send 4 = .ok (.arraylength, 1) := by decide +kernel
theorem dX5_send_5 : decode cX5_send 5 = .ok (.iconst 1, 1) := by decide +kernel
theorem dX5_send_6 : decode cX5_send 6 = .ok (.iadd, 1) := by decide +kernel
theorem dX5_send_7 : decode cX5_send 7 = .ok (.anewarray 7, 3) := by decide +kernel
theorem dX5_send_10 : decode cX5_send 10 = .ok (.astore 5, 2) := by decide +kernel
theorem dX5_send_12 : decode cX5_send 12 = .ok (.iconst 0, 1) := by decide +kernel
theorem dX5_send_13 : decode cX5_send 13 = .ok (.istore 6, 2) := by decide +kernel
theorem dX5_send_15 : decode cX5_send 15 = .ok (.aload_n 0, 1) := by decide +kernel
theorem dX5_send_16 : decode cX5_send 16 = .ok (.getfield 9, 3) := by decide +kernel
theorem dX5_send_19 : decode cX5_send 19 = .ok (.astore 7, 2) := by decide +kernel
theorem dX5_send_21 : decode cX5_send 21 = .ok (.aload 7, 2) := by decide +kernel
theorem dX5_send_23 : decode cX5_send 23 = .ok (.arraylength, 1) := by decide +kernel
theorem dX5_send_24 : decode cX5_send 24 = .ok (.istore 8, 2) := by decide +kernel
theorem dX5_send_26 : decode cX5_send 26 = .ok (.iconst 0, 1) := by decide +kernel
theorem dX5_send_27 : decode cX5_send 27 = .ok (.istore 9, 2) := by decide +kernel
theorem dX5_send_29 : decode cX5_send 29 = .ok (.iload 9, 2) := by decide +kernel
theorem dX5_send_31 : decode cX5_send 31 = .ok (.iload 8, 2) := by decide +kernel
theorem dX5_send_33 : decode cX5_send 33 = .ok (.if_icmp .ge 85, 3) := by decide +kernel
theorem dX5_send_36 : decode cX5_send 36 = .ok (.aload 7, 2) := by decide +kernel
theorem dX5_send_38 : decode cX5_send 38 = .ok (.iload 9, 2) := by decide +kernel
theorem dX5_send_40 : decode cX5_send 40 = .ok (.aaload, 1) := by decide +kernel
theorem dX5_send_41 : decode cX5_send 41 = .ok (.astore 10, 2) := by decide +kernel
theorem dX5_send_43 : decode cX5_send 43 = .ok (.aload 10, 2) := by decide +kernel
theorem dX5_send_45 : decode cX5_send 45 = .ok (.iconst 0, 1) := by decide +kernel
theorem dX5_send_46 : decode cX5_send 46 = .ok (.iaload, 1) := by decide +kernel
theorem dX5_send_47 : decode cX5_send 47 = .ok (.iload_n 1, 1) := by decide +kernel
theorem dX5_send_48 : decode cX5_send 48 = .ok (.if_icmp .ne 15, 3) := by decide +kernel
theorem dX5_send_51 : decode cX5_send 51 = .ok (.aload 10, 2) := by decide +kernel
theorem dX5_send_53 : decode cX5_send 53 = .ok (.iconst 2, 1) := by decide +kernel
theorem dX5_send_54 : decode cX5_send 54 = .ok (.iaload, 1) := by decide +kernel
theorem dX5_send_55 : decode cX5_send 55 = .ok (.iload_n 3, 1) := by decide +kernel
theorem dX5_send_56 : decode cX5_send 56 = .ok (.if_icmp .ne 7, 3) := by decide +kernel
theorem dX5_send_59 : decode cX5_send 59 = .ok (.iconst 1, 1) := by decide +kernel
theorem dX5_send_60 : decode cX5_send 60 = .ok (.goto 4, 3) := by decide +kernel
theorem dX5_send_63 : decode cX5_send 63 = .ok (.iconst 0, 1) := by decide +kernel
theorem dX5_send_64 : decode cX5_send 64 = .ok (.istore 11, 2) := by decide +kernel
theorem dX5_send_66 : decode cX5_send 66 = .ok (.iload 11, 2) := by decide +kernel
theorem dX5_send_68 : decode cX5_send 68 = .ok (.ifCond .eq 29, 3) := by decide +kernel
theorem dX5_send_71 : decode cX5_send 71 = .ok (.aload 10, 2) := by decide +kernel
theorem dX5_send_73 : decode cX5_send 73 = .ok (.iconst 1, 1) := by decide +kernel
theorem dX5_send_74 : decode cX5_send 74 = .ok (.iaload, 1) := by decide +kernel
theorem dX5_send_75 : decode cX5_send 75 = .ok (.iload_n 2, 1) := by decide +kernel
theorem dX5_send_76 : decode cX5_send 76 = .ok (.if_icmp .lt 20, 3) := by decide +kernel
theorem dX5_send_79 : decode cX5_send 79 = .ok (.aload 10, 2) := by decide +kernel
theorem dX5_send_81 : decode cX5_send 81 = .ok (.iconst 1, 1) := by decide +kernel
theorem dX5_send_82 : decode cX5_send 82 = .ok (.iaload, 1) := by decide +kernel
theorem dX5_send_83 : decode cX5_send 83 = .ok (.iload_n 2, 1) := by decide +kernel
theorem dX5_send_84 : decode cX5_send 84 = .ok (.if_icmp .ne 13, 3) := by decide +kernel
theorem dX5_send_87 : decode cX5_send 87 = .ok (.aload 10, 2) := by decide +kernel
theorem dX5_send_89 : decode cX5_send 89 = .ok (.iconst 3, 1) := by decide +kernel
theorem dX5_send_90 : decode cX5_send 90 = .ok (.iaload, 1) := by decide +kernel
theorem dX5_send_91 : decode cX5_send 91 = .ok (.iload 4, 2) := by decide +kernel
theorem dX5_send_93 : decode cX5_send 93 = .ok (.if_icmp .gt 4, 3) := by decide +kernel
theorem dX5_send_96 : decode cX5_send 96 = .ok (.return_, 1) := by decide +kernel
theorem dX5_send_97 : decode cX5_send 97 = .ok (.iload 11, 2) := by decide +kernel
theorem dX5_send_99 : decode cX5_send 99 = .ok (.ifCond .ne 13, 3) := by decide +kernel
theorem dX5_send_102 : decode cX5_send 102 = .ok (.aload 5, 2) := by decide +kernel
theorem dX5_send_104 : decode cX5_send 104 = .ok (.iload 6, 2) := by decide +kernel
theorem dX5_send_106 : decode cX5_send 106 = .ok (.aload 10, 2) := by decide +kernel
theorem dX5_send_108 : decode cX5_send 108 = .ok (.aastore, 1) := by decide +kernel
theorem dX5_send_109 : decode cX5_send 109 = .ok (.iinc 6 1, 3) := by decide +kernel
theorem dX5_send_112 : decode cX5_send 112 = .ok (.iinc 9 1, 3) := by decide +kernel
theorem dX5_send_115 : decode cX5_send 115 = .ok (.goto (-86), 3) := by decide +kernel
theorem dX5_send_118 : decode cX5_send 118 = .ok (.aload 5, 2) := by decide +kernel
theorem dX5_send_120 : decode cX5_send 120 = .ok (.iload 6, 2) := by decide +kernel
theorem dX5_send_122 : decode cX5_send 122 = .ok (.iconst 4, 1) := by decide +kernel
theorem dX5_send_123 : decode cX5_send 123 = .ok (.newarray .int, 2) := by decide +kernel
theorem dX5_send_125 : decode cX5_send 125 = .ok (.dup, 1) := by decide +kernel
theorem dX5_send_126 : decode cX5_send 126 = .ok (.iconst 0, 1) := by decide +kernel
theorem dX5_send_127 : decode cX5_send 127 = .ok (.iload_n 1, 1) := by decide +kernel
theorem dX5_send_128 : decode cX5_send 128 = .ok (.iastore, 1) := by decide +kernel
theorem dX5_send_129 : decode cX5_send 129 = .ok (.dup, 1) := by decide +kernel
theorem dX5_send_130 : decode cX5_send 130 = .ok (.iconst 1, 1) := by decide +kernel
theorem dX5_send_131 : decode cX5_send 131 = .ok (.iload_n 2, 1) := by decide +kernel
theorem dX5_send_132 : decode cX5_send 132 = .ok (.iastore, 1) := by decide +kernel
theorem dX5_send_133 : decode cX5_send 133 = .ok (.dup, 1) := by decide +kernel
theorem dX5_send_134 : decode cX5_send 134 = .ok (.iconst 2, 1) := by decide +kernel
theorem dX5_send_135 : decode cX5_send 135 = .ok (.iload_n 3, 1) := by decide +kernel
theorem dX5_send_136 : decode cX5_send 136 = .ok (.iastore, 1) := by decide +kernel
theorem dX5_send_137 : decode cX5_send 137 = .ok (.dup, 1) := by decide +kernel
theorem dX5_send_138 : decode cX5_send 138 = .ok (.iconst 3, 1) := by decide +kernel
theorem dX5_send_139 : decode cX5_send 139 = .ok (.iload 4, 2) := by decide +kernel
theorem dX5_send_141 : decode cX5_send 141 = .ok (.iastore, 1) := by decide +kernel
theorem dX5_send_142 : decode cX5_send 142 = .ok (.aastore, 1) := by decide +kernel
theorem dX5_send_143 : decode cX5_send 143 = .ok (.aload_n 0, 1) := by decide +kernel
theorem dX5_send_144 : decode cX5_send 144 = .ok (.iload 6, 2) := by decide +kernel
theorem dX5_send_146 : decode cX5_send 146 = .ok (.iconst 1, 1) := by decide +kernel
theorem dX5_send_147 : decode cX5_send 147 = .ok (.iadd, 1) := by decide +kernel
theorem dX5_send_148 : decode cX5_send 148 = .ok (.anewarray 7, 3) := by decide +kernel
theorem dX5_send_151 : decode cX5_send 151 = .ok (.putfield 9, 3) := by decide +kernel
theorem dX5_send_154 : decode cX5_send 154 = .ok (.iconst 0, 1) := by decide +kernel
theorem dX5_send_155 : decode cX5_send 155 = .ok (.istore 7, 2) := by decide +kernel
theorem dX5_send_157 : decode cX5_send 157 = .ok (.iload 7, 2) := by decide +kernel
theorem dX5_send_159 : decode cX5_send 159 = .ok (.iload 6, 2) := by decide +kernel
theorem dX5_send_161 : decode cX5_send 161 = .ok (.if_icmp .gt 21, 3) := by decide +kernel
theorem dX5_send_164 : decode cX5_send 164 = .ok (.aload_n 0, 1) := by decide +kernel
theorem dX5_send_165 : decode cX5_send 165 = .ok (.getfield 9, 3) := by decide +kernel
theorem dX5_send_168 : decode cX5_send 168 = .ok (.iload 7, 2) := by decide +kernel
theorem dX5_send_170 : decode cX5_send 170 = .ok (.aload 5, 2) := by decide +kernel
theorem dX5_send_172 : decode cX5_send 172 = .ok (.iload 7, 2) := by decide +kernel
theorem dX5_send_174 : decode cX5_send 174 = .ok (.aaload, 1) := by decide +kernel
theorem dX5_send_175 : decode cX5_send 175 = .ok (.aastore, 1) := by decide +kernel
theorem dX5_send_176 : decode cX5_send 176 = .ok (.iinc 7 1, 3) := by decide +kernel
theorem dX5_send_179 : decode cX5_send 179 = .ok (.goto (-22), 3) := by decide +kernel
theorem dX5_send_182 : decode cX5_send 182 = .ok (.return_, 1) := by decide +kernel
theorem dX5_comes_0 : decode cX5_comes 0 = .ok (.aload_n 0, 1) := by decide +kernel
theorem dX5_comes_1 : decode cX5_comes 1 = .ok (.getfield 9, 3) := by decide +kernel
theorem dX5_comes_4 : decode cX5_comes 4 = .ok (.astore_n 3, 1) := by decide +kernel
theorem dX5_comes_5 : decode cX5_comes 5 = .ok (.aload_n 3, 1) := by decide +kernel
theorem dX5_comes_6 : decode cX5_comes 6 = .ok (.arraylength, 1) := by decide +kernel
theorem dX5_comes_7 : decode cX5_comes 7 = .ok (.istore 4, 2) := by decide +kernel
theorem dX5_comes_9 : decode cX5_comes 9 = .ok (.iconst 0, 1) := by decide +kernel
theorem dX5_comes_10 : decode cX5_comes 10 = .ok (.istore 5, 2) := by decide +kernel
theorem dX5_comes_12 : decode cX5_comes 12 = .ok (.iload 5, 2) := by decide +kernel
theorem dX5_comes_14 : decode cX5_comes 14 = .ok (.iload 4, 2) := by decide +kernel
theorem dX5_comes_16 : decode cX5_comes 16 = .ok (.if_icmp .ge 33, 3) := by decide +kernel
theorem dX5_comes_19 : decode cX5_comes 19 = .ok (.aload_n 3, 1) := by decide +kernel
theorem dX5_comes_20 : decode cX5_comes 20 = .ok (.iload 5, 2) := by decide +kernel
theorem dX5_comes_22 : decode cX5_comes 22 = .ok (.aaload, 1) := by decide +kernel
theorem dX5_comes_23 : decode cX5_comes 23 = .ok (.astore 6, 2) := by decide +kernel
theorem dX5_comes_25 : decode cX5_comes 25 = .ok (.aload 6, 2) := by decide +kernel
theorem dX5_comes_27 : decode cX5_comes 27 = .ok (.iconst 1, 1) := by decide +kernel
theorem dX5_comes_28 : decode cX5_comes 28 = .ok (.iaload, 1) := by decide +kernel
theorem dX5_comes_29 : decode cX5_comes 29 = .ok (.iload_n 1, 1) := by decide +kernel
theorem dX5_comes_30 : decode cX5_comes 30 = .ok (.if_icmp .ne 13, 3) := by decide +kernel
theorem dX5_comes_33 : decode cX5_comes 33 = .ok (.aload 6, 2) := by decide +kernel
theorem dX5_comes_35 : decode cX5_comes 35 = .ok (.iconst 2, 1) := by decide +kernel
theorem dX5_comes_36 : decode cX5_comes 36 = .ok (.iaload, 1) := by decide +kernel
theorem dX5_comes_37 : decode cX5_comes 37 = .ok (.iload_n 2, 1) := by decide +kernel
theorem dX5_comes_38 : decode cX5_comes 38 = .ok (.if_icmp .ne 5, 3) := by decide +kernel
theorem dX5_comes_41 : decode cX5_comes 41 = .ok (.iconst 1, 1) := by decide +kernel
theorem dX5_comes_42 : decode cX5_comes 42 = .ok (.ireturn, 1) := by decide +kernel
theorem dX5_comes_43 : decode cX5_comes 43 = .ok (.iinc 5 1, 3) := by decide +kernel
theorem dX5_comes_46 : decode cX5_comes 46 = .ok (.goto (-34), 3) := by decide +kernel
theorem dX5_comes_49 : decode cX5_comes 49 = .ok (.iconst 0, 1) := by decide +kernel
theorem dX5_comes_50 : decode cX5_comes 50 = .ok (.ireturn, 1) := by decide +kernel
theorem dX5_take_0 : decode cX5_take 0 = .ok (.aload_n 0, 1) := by decide +kernel
theorem dX5_take_1 : decode cX5_take 1 = .ok (.getfield 15, 3) := by decide +kernel
theorem dX5_take_4 : decode cX5_take 4 = .ok (.arraylength, 1) := by decide +kernel
theorem dX5_take_5 : decode cX5_take 5 = .ok (.invokestatic 18, 3) := by decide +kernel
theorem dX5_take_8 : decode cX5_take 8 = .ok (.astore_n 3, 1) := by decide +kernel
theorem dX5_take_9 : decode cX5_take 9 = .ok (.aload_n 0, 1) := by decide +kernel
theorem dX5_take_10 : decode cX5_take 10 = .ok (.getfield 9, 3) := by decide +kernel
theorem dX5_take_13 : decode cX5_take 13 = .ok (.arraylength, 1) := by decide +kernel
theorem dX5_take_14 : decode cX5_take 14 = .ok (.anewarray 7, 3) := by decide +kernel
theorem dX5_take_17 : decode cX5_take 17 = .ok (.astore 4, 2) := by decide +kernel
theorem dX5_take_19 : decode cX5_take 19 = .ok (.iconst 0, 1) := by decide +kernel
theorem dX5_take_20 : decode cX5_take 20 = .ok (.istore 5, 2) := by decide +kernel
theorem dX5_take_22 : decode cX5_take 22 = .ok (.aload_n 0, 1) := by decide +kernel
theorem dX5_take_23 : decode cX5_take 23 = .ok (.getfield 9, 3) := by decide +kernel
theorem dX5_take_26 : decode cX5_take 26 = .ok (.astore 6, 2) := by decide +kernel
theorem dX5_take_28 : decode cX5_take 28 = .ok (.aload 6, 2) := by decide +kernel
theorem dX5_take_30 : decode cX5_take 30 = .ok (.arraylength, 1) := by decide +kernel
theorem dX5_take_31 : decode cX5_take 31 = .ok (.istore 7, 2) := by decide +kernel
theorem dX5_take_33 : decode cX5_take 33 = .ok (.iconst 0, 1) := by decide +kernel
theorem dX5_take_34 : decode cX5_take 34 = .ok (.istore 8, 2) := by decide +kernel
theorem dX5_take_36 : decode cX5_take 36 = .ok (.iload 8, 2) := by decide +kernel
theorem dX5_take_38 : decode cX5_take 38 = .ok (.iload 7, 2) := by decide +kernel
theorem dX5_take_40 : decode cX5_take 40 = .ok (.if_icmp .ge 55, 3) := by decide +kernel
theorem dX5_take_43 : decode cX5_take 43 = .ok (.aload 6, 2) := by decide +kernel
theorem dX5_take_45 : decode cX5_take 45 = .ok (.iload 8, 2) := by decide +kernel
theorem dX5_take_47 : decode cX5_take 47 = .ok (.aaload, 1) := by decide +kernel
theorem dX5_take_48 : decode cX5_take 48 = .ok (.astore 9, 2) := by decide +kernel
theorem dX5_take_50 : decode cX5_take 50 = .ok (.aload 9, 2) := by decide +kernel
theorem dX5_take_52 : decode cX5_take 52 = .ok (.iconst 1, 1) := by decide +kernel
theorem dX5_take_53 : decode cX5_take 53 = .ok (.iaload, 1) := by decide +kernel
theorem dX5_take_54 : decode cX5_take 54 = .ok (.iload_n 1, 1) := by decide +kernel
theorem dX5_take_55 : decode cX5_take 55 = .ok (.if_icmp .ne 24, 3) := by decide +kernel
theorem dX5_take_58 : decode cX5_take 58 = .ok (.aload 9, 2) := by decide +kernel
theorem dX5_take_60 : decode cX5_take 60 = .ok (.iconst 2, 1) := by decide +kernel
theorem dX5_take_61 : decode cX5_take 61 = .ok (.iaload, 1) := by decide +kernel
theorem dX5_take_62 : decode cX5_take 62 = .ok (.iload_n 2, 1) := by decide +kernel
theorem dX5_take_63 : decode cX5_take 63 = .ok (.if_icmp .ne 16, 3) := by decide +kernel
theorem dX5_take_66 : decode cX5_take 66 = .ok (.aload_n 3, 1) := by decide +kernel
theorem dX5_take_67 : decode cX5_take 67 = .ok (.aload 9, 2) := by decide +kernel
theorem dX5_take_69 : decode cX5_take 69 = .ok (.iconst 0, 1) := by decide +kernel
theorem dX5_take_70 : decode cX5_take 70 = .ok (.iaload, 1) := by decide +kernel
theorem dX5_take_71 : decode cX5_take 71 = .ok (.aload 9, 2) := by decide +kernel
theorem dX5_take_73 : decode cX5_take 73 = .ok (.iconst 3, 1) := by decide +kernel
theorem dX5_take_74 : decode cX5_take 74 = .ok (.iaload, 1) := by decide +kernel
theorem dX5_take_75 : decode cX5_take 75 = .ok (.iastore, 1) := by decide +kernel
theorem dX5_take_76 : decode cX5_take 76 = .ok (.goto 13, 3) := by decide +kernel
theorem dX5_take_79 : decode cX5_take 79 = .ok (.aload 4, 2) := by decide +kernel
theorem dX5_take_81 : decode cX5_take 81 = .ok (.iload 5, 2) := by decide +kernel
theorem dX5_take_83 : decode cX5_take 83 = .ok (.aload 9, 2) := by decide +kernel
theorem dX5_take_85 : decode cX5_take 85 = .ok (.aastore, 1) := by decide +kernel
theorem dX5_take_86 : decode cX5_take 86 = .ok (.iinc 5 1, 3) := by decide +kernel
theorem dX5_take_89 : decode cX5_take 89 = .ok (.iinc 8 1, 3) := by decide +kernel
theorem dX5_take_92 : decode cX5_take 92 = .ok (.goto (-56), 3) := by decide +kernel
theorem dX5_take_95 : decode cX5_take 95 = .ok (.aload_n 0, 1) := by decide +kernel
theorem dX5_take_96 : decode cX5_take 96 = .ok (.iload 5, 2) := by decide +kernel
theorem dX5_take_98 : decode cX5_take 98 = .ok (.anewarray 7, 3) := by decide +kernel
theorem dX5_take_101 : decode cX5_take 101 = .ok (.putfield 9, 3) := by decide +kernel
theorem dX5_take_104 : decode cX5_take 104 = .ok (.iconst 0, 1) := by decide +kernel
theorem dX5_take_105 : decode cX5_take 105 = .ok (.istore 6, 2) := by decide +kernel
theorem dX5_take_107 : decode cX5_take 107 = .ok (.iload 6, 2) := by decide +kernel
theorem dX5_take_109 : decode cX5_take 109 = .ok (.iload 5, 2) := by decide +kernel
theorem dX5_take_111 : decode cX5_take 111 = .ok (.if_icmp .ge 21, 3) := by decide +kernel
theorem dX5_take_114 : decode cX5_take 114 = .ok (.aload_n 0, 1) := by decide +kernel
theorem dX5_take_115 : decode cX5_take 115 = .ok (.getfield 9, 3) := by decide +kernel
theorem dX5_take_118 : decode cX5_take 118 = .ok (.iload 6, 2) := by decide +kernel
theorem dX5_take_120 : decode cX5_take 120 = .ok (.aload 4, 2) := by decide +kernel
theorem dX5_take_122 : decode cX5_take 122 = .ok (.iload 6, 2) := by decide +kernel
theorem dX5_take_124 : decode cX5_take 124 = .ok (.aaload, 1) := by decide +kernel
theorem dX5_take_125 : decode cX5_take 125 = .ok (.aastore, 1) := by decide +kernel
theorem dX5_take_126 : decode cX5_take 126 = .ok (.iinc 6 1, 3) := by decide +kernel
theorem dX5_take_129 : decode cX5_take 129 = .ok (.goto (-22), 3) := by decide +kernel
theorem dX5_take_132 : decode cX5_take 132 = .ok (.aload_n 3, 1) := by decide +kernel
theorem dX5_take_133 : decode cX5_take 133 = .ok (.areturn, 1) := by decide +kernel
theorem dX5_under_0 : decode cX5_under 0 = .ok (.iconst 0, 1) := by decide +kernel
theorem dX5_under_1 : decode cX5_under 1 = .ok (.istore_n 1, 1) := by decide +kernel
theorem dX5_under_2 : decode cX5_under 2 = .ok (.iconst 0, 1) := by decide +kernel
theorem dX5_under_3 : decode cX5_under 3 = .ok (.istore_n 2, 1) := by decide +kernel
theorem dX5_under_4 : decode cX5_under 4 = .ok (.iload_n 2, 1) := by decide +kernel
theorem dX5_under_5 : decode cX5_under 5 = .ok (.aload_n 0, 1) := by decide +kernel
theorem dX5_under_6 : decode cX5_under 6 = .ok (.getfield 15, 3) := by decide +kernel
theorem dX5_under_9 : decode cX5_under 9 = .ok (.arraylength, 1) := by decide +kernel
theorem dX5_under_10 : decode cX5_under 10 = .ok (.if_icmp .ge 73, 3) := by decide +kernel
theorem dX5_under_13 : decode cX5_under 13 = .ok (.iconst 0, 1) := by decide +kernel
theorem dX5_under_14 : decode cX5_under 14 = .ok (.istore_n 3, 1) := by decide +kernel
theorem dX5_under_15 : decode cX5_under 15 = .ok (.aload_n 0, 1) := by decide +kernel
theorem dX5_under_16 : decode cX5_under 16 = .ok (.getfield 9, 3) := by decide +kernel
theorem dX5_under_19 : decode cX5_under 19 = .ok (.astore 4, 2) := by decide +kernel
theorem dX5_under_21 : decode cX5_under 21 = .ok (.aload 4, 2) := by decide +kernel
theorem dX5_under_23 : decode cX5_under 23 = .ok (.arraylength, 1) := by decide +kernel
theorem dX5_under_24 : decode cX5_under 24 = .ok (.istore 5, 2) := by decide +kernel
theorem dX5_under_26 : decode cX5_under 26 = .ok (.iconst 0, 1) := by decide +kernel
theorem dX5_under_27 : decode cX5_under 27 = .ok (.istore 6, 2) := by decide +kernel
theorem dX5_under_29 : decode cX5_under 29 = .ok (.iload 6, 2) := by decide +kernel
theorem dX5_under_31 : decode cX5_under 31 = .ok (.iload 5, 2) := by decide +kernel
theorem dX5_under_33 : decode cX5_under 33 = .ok (.if_icmp .ge 32, 3) := by decide +kernel
theorem dX5_under_36 : decode cX5_under 36 = .ok (.aload 4, 2) := by decide +kernel
theorem dX5_under_38 : decode cX5_under 38 = .ok (.iload 6, 2) := by decide +kernel
theorem dX5_under_40 : decode cX5_under 40 = .ok (.aaload, 1) := by decide +kernel
theorem dX5_under_41 : decode cX5_under 41 = .ok (.astore 7, 2) := by decide +kernel
theorem dX5_under_43 : decode cX5_under 43 = .ok (.iload_n 3, 1) := by decide +kernel
theorem dX5_under_44 : decode cX5_under 44 = .ok (.aload 7, 2) := by decide +kernel
theorem dX5_under_46 : decode cX5_under 46 = .ok (.iconst 0, 1) := by decide +kernel
theorem dX5_under_47 : decode cX5_under 47 = .ok (.iaload, 1) := by decide +kernel
theorem dX5_under_48 : decode cX5_under 48 = .ok (.iload_n 2, 1) := by decide +kernel
theorem dX5_under_49 : decode cX5_under 49 = .ok (.if_icmp .ne 7, 3) := by decide +kernel
theorem dX5_under_52 : decode cX5_under 52 = .ok (.iconst 1, 1) := by decide +kernel
theorem dX5_under_53 : decode cX5_under 53 = .ok (.goto 4, 3) := by decide +kernel
theorem dX5_under_56 : decode cX5_under 56 = .ok (.iconst 0, 1) := by decide +kernel
theorem dX5_under_57 : decode cX5_under 57 = .ok (.ior, 1) := by decide +kernel
theorem dX5_under_58 : decode cX5_under 58 = .ok (.istore_n 3, 1) := by decide +kernel
theorem dX5_under_59 : decode cX5_under 59 = .ok (.iinc 6 1, 3) := by decide +kernel
theorem dX5_under_62 : decode cX5_under 62 = .ok (.goto (-33), 3) := by decide +kernel
theorem dX5_under_65 : decode cX5_under 65 = .ok (.iload_n 1, 1) := by decide +kernel
theorem dX5_under_66 : decode cX5_under 66 = .ok (.iload_n 3, 1) := by decide +kernel
theorem dX5_under_67 : decode cX5_under 67 = .ok (.ifCond .eq 7, 3) := by decide +kernel
theorem dX5_under_70 : decode cX5_under 70 = .ok (.iconst 1, 1) := by decide +kernel
theorem dX5_under_71 : decode cX5_under 71 = .ok (.goto 4, 3) := by decide +kernel
theorem dX5_under_74 : decode cX5_under 74 = .ok (.iconst 0, 1) := by decide +kernel
theorem dX5_under_75 : decode cX5_under 75 = .ok (.iadd, 1) := by decide +kernel
theorem dX5_under_76 : decode cX5_under 76 = .ok (.istore_n 1, 1) := by decide +kernel
theorem dX5_under_77 : decode cX5_under 77 = .ok (.iinc 2 1, 3) := by decide +kernel
theorem dX5_under_80 : decode cX5_under 80 = .ok (.goto (-76), 3) := by decide +kernel
theorem dX5_under_83 : decode cX5_under 83 = .ok (.iload_n 1, 1) := by decide +kernel
theorem dX5_under_84 : decode cX5_under 84 = .ok (.ireturn, 1) := by decide +kernel
theorem dX5_reached_0 : decode cX5_reached 0 = .ok (.iconst 0, 1) := by decide +kernel
theorem dX5_reached_1 : decode cX5_reached 1 = .ok (.istore_n 1, 1) := by decide +kernel
theorem dX5_reached_2 : decode cX5_reached 2 = .ok (.aload_n 0, 1) := by decide +kernel
theorem dX5_reached_3 : decode cX5_reached 3 = .ok (.getfield 22, 3) := by decide +kernel
theorem dX5_reached_6 : decode cX5_reached 6 = .ok (.astore_n 2, 1) := by decide +kernel
theorem dX5_reached_7 : decode cX5_reached 7 = .ok (.aload_n 2, 1) := by decide +kernel
theorem dX5_reached_8 : decode cX5_reached 8 = .ok (.arraylength, 1) := by decide +kernel
theorem dX5_reached_9 : decode cX5_reached 9 = .ok (.istore_n 3, 1) := by decide +kernel
theorem dX5_reached_10 : decode cX5_reached 10 = .ok (.iconst 0, 1) := by decide +kernel
theorem dX5_reached_11 : decode cX5_reached 11 = .ok (.istore 4, 2) := by decide +kernel
theorem dX5_reached_13 : decode cX5_reached 13 = .ok (.iload 4, 2) := by decide +kernel
theorem dX5_reached_15 : decode cX5_reached 15 = .ok (.iload_n 3, 1) := by decide +kernel
theorem dX5_reached_16 : decode cX5_reached 16 = .ok (.if_icmp .ge 28, 3) := by decide +kernel
theorem dX5_reached_19 : decode cX5_reached 19 = .ok (.aload_n 2, 1) := by decide +kernel
theorem dX5_reached_20 : decode cX5_reached 20 = .ok (.iload 4, 2) := by decide +kernel
theorem dX5_reached_22 : decode cX5_reached 22 = .ok (.iaload, 1) := by decide +kernel
theorem dX5_reached_23 : decode cX5_reached 23 = .ok (.istore 5, 2) := by decide +kernel
theorem dX5_reached_25 : decode cX5_reached 25 = .ok (.iload_n 1, 1) := by decide +kernel
theorem dX5_reached_26 : decode cX5_reached 26 = .ok (.iload 5, 2) := by decide +kernel
theorem dX5_reached_28 : decode cX5_reached 28 = .ok (.ifCond .lt 7, 3) := by decide +kernel
theorem dX5_reached_31 : decode cX5_reached 31 = .ok (.iconst 1, 1) := by decide +kernel
theorem dX5_reached_32 : decode cX5_reached 32 = .ok (.goto 4, 3) := by decide +kernel
theorem dX5_reached_35 : decode cX5_reached 35 = .ok (.iconst 0, 1) := by decide +kernel
theorem dX5_reached_36 : decode cX5_reached 36 = .ok (.iadd, 1) := by decide +kernel
theorem dX5_reached_37 : decode cX5_reached 37 = .ok (.istore_n 1, 1) := by decide +kernel
theorem dX5_reached_38 : decode cX5_reached 38 = .ok (.iinc 4 1, 3) := by decide +kernel
theorem dX5_reached_41 : decode cX5_reached 41 = .ok (.goto (-28), 3) := by decide +kernel
theorem dX5_reached_44 : decode cX5_reached 44 = .ok (.iload_n 1, 1) := by decide +kernel
theorem dX5_reached_45 : decode cX5_reached 45 = .ok (.ireturn, 1) := by decide +kernel
theorem dX6_init_0 : decode cX6_init 0 = .ok (.aload_n 0, 1) := by decide +kernel
theorem dX6_init_1 : decode cX6_init 1 = .ok (.invokespecial 1, 3) := by decide +kernel
theorem dX6_init_4 : decode cX6_init 4 = .ok (.aload_n 0, 1) := by decide +kernel
theorem dX6_init_5 : decode cX6_init 5 = .ok (.bipush 6, 2) := by decide +kernel
theorem dX6_init_7 : decode cX6_init 7 = .ok (.newarray .int, 2) := by decide +kernel
theorem dX6_init_9 : decode cX6_init 9 = .ok (.dup, 1) := by decide +kernel
theorem dX6_init_10 : decode cX6_init 10 = .ok (.iconst 0, 1) := by decide +kernel
theorem dX6_init_11 : decode cX6_init 11 = .ok (.bipush 10, 2) := by decide +kernel
theorem dX6_init_13 : decode cX6_init 13 = .ok (.iastore, 1) := by decide +kernel
theorem dX6_init_14 : decode cX6_init 14 = .ok (.dup, 1) := by decide +kernel
theorem dX6_init_15 : decode cX6_init 15 = .ok (.iconst 1, 1) := by decide +kernel
theorem dX6_init_16 : decode cX6_init 16 = .ok (.bipush 10, 2) := by decide +kernel
theorem dX6_init_18 : decode cX6_init 18 = .ok (.iastore, 1) := by decide +kernel
theorem dX6_init_19 : decode cX6_init 19 = .ok (.dup, 1) := by decide +kernel
theorem dX6_init_20 : decode cX6_init 20 = .ok (.iconst 2, 1) := by decide +kernel
theorem dX6_init_21 : decode cX6_init 21 = .ok (.bipush 10, 2) := by decide +kernel
theorem dX6_init_23 : decode cX6_init 23 = .ok (.iastore, 1) := by decide +kernel
theorem dX6_init_24 : decode cX6_init 24 = .ok (.dup, 1) := by decide +kernel
theorem dX6_init_25 : decode cX6_init 25 = .ok (.iconst 3, 1) := by decide +kernel
theorem dX6_init_26 : decode cX6_init 26 = .ok (.bipush 10, 2) := by decide +kernel
theorem dX6_init_28 : decode cX6_init 28 = .ok (.iastore, 1) := by decide +kernel
theorem dX6_init_29 : decode cX6_init 29 = .ok (.dup, 1) := by decide +kernel
theorem dX6_init_30 : decode cX6_init 30 = .ok (.iconst 4, 1) := by decide +kernel
theorem dX6_init_31 : decode cX6_init 31 = .ok (.bipush 10, 2) := by decide +kernel
theorem dX6_init_33 : decode cX6_init 33 = .ok (.iastore, 1) := by decide +kernel
theorem dX6_init_34 : decode cX6_init 34 = .ok (.dup, 1) := by decide +kernel
theorem dX6_init_35 : decode cX6_init 35 = .ok (.iconst 5, 1) := by decide +kernel
theorem dX6_init_36 : decode cX6_init 36 = .ok (.bipush 10, 2) := by decide +kernel
theorem dX6_init_38 : decode cX6_init 38 = .ok (.iastore, 1) := by decide +kernel
theorem dX6_init_39 : decode cX6_init 39 = .ok (.putfield 7, 3) := by decide +kernel
theorem dX6_init_42 : decode cX6_init 42 = .ok (.aload_n 0, 1) := by decide +kernel
theorem dX6_init_43 : decode cX6_init 43 = .ok (.bipush 6, 2) := by decide +kernel
theorem dX6_init_45 : decode cX6_init 45 = .ok (.newarray .int, 2) := by decide +kernel
theorem dX6_init_47 : decode cX6_init 47 = .ok (.dup, 1) := by decide +kernel
theorem dX6_init_48 : decode cX6_init 48 = .ok (.iconst 0, 1) := by decide +kernel
theorem dX6_init_49 : decode cX6_init 49 = .ok (.iconst 2, 1) := by decide +kernel
theorem dX6_init_50 : decode cX6_init 50 = .ok (.iastore, 1) := by decide +kernel
theorem dX6_init_51 : decode cX6_init 51 = .ok (.dup, 1) := by decide +kernel
theorem dX6_init_52 : decode cX6_init 52 = .ok (.iconst 1, 1) := by decide +kernel
theorem dX6_init_53 : decode cX6_init 53 = .ok (.iconst 2, 1) := by decide +kernel
theorem dX6_init_54 : decode cX6_init 54 = .ok (.iastore, 1) := by decide +kernel
theorem dX6_init_55 : decode cX6_init 55 = .ok (.dup, 1) := by decide +kernel
theorem dX6_init_56 : decode cX6_init 56 = .ok (.iconst 2, 1) := by decide +kernel
theorem dX6_init_57 : decode cX6_init 57 = .ok (.iconst 2, 1) := by decide +kernel
theorem dX6_init_58 : decode cX6_init 58 = .ok (.iastore, 1) := by decide +kernel
theorem dX6_init_59 : decode cX6_init 59 = .ok (.dup, 1) := by decide +kernel
theorem dX6_init_60 : decode cX6_init 60 = .ok (.iconst 3, 1) := by decide +kernel
theorem dX6_init_61 : decode cX6_init 61 = .ok (.iconst 2, 1) := by decide +kernel
theorem dX6_init_62 : decode cX6_init 62 = .ok (.iastore, 1) := by decide +kernel
theorem dX6_init_63 : decode cX6_init 63 = .ok (.dup, 1) := by decide +kernel
theorem dX6_init_64 : decode cX6_init 64 = .ok (.iconst 4, 1) := by decide +kernel
theorem dX6_init_65 : decode cX6_init 65 = .ok (.iconst 2, 1) := by decide +kernel
theorem dX6_init_66 : decode cX6_init 66 = .ok (.iastore, 1) := by decide +kernel
theorem dX6_init_67 : decode cX6_init 67 = .ok (.dup, 1) := by decide +kernel
theorem dX6_init_68 : decode cX6_init 68 = .ok (.iconst 5, 1) := by decide +kernel
theorem dX6_init_69 : decode cX6_init 69 = .ok (.iconst 2, 1) := by decide +kernel
theorem dX6_init_70 : decode cX6_init 70 = .ok (.iastore, 1) := by decide +kernel
theorem dX6_init_71 : decode cX6_init 71 = .ok (.putfield 13, 3) := by decide +kernel
theorem dX6_init_74 : decode cX6_init 74 = .ok (.aload_n 0, 1) := by decide +kernel
theorem dX6_init_75 : decode cX6_init 75 = .ok (.iconst 5, 1) := by decide +kernel
theorem dX6_init_76 : decode cX6_init 76 = .ok (.newarray .int, 2) := by decide +kernel
theorem dX6_init_78 : decode cX6_init 78 = .ok (.dup, 1) := by decide +kernel
theorem dX6_init_79 : decode cX6_init 79 = .ok (.iconst 0, 1) := by decide +kernel
theorem dX6_init_80 : decode cX6_init 80 = .ok (.iconst 3, 1) := by decide +kernel
theorem dX6_init_81 : decode cX6_init 81 = .ok (.iastore, 1) := by decide +kernel
theorem dX6_init_82 : decode cX6_init 82 = .ok (.dup, 1) := by decide +kernel
theorem dX6_init_83 : decode cX6_init 83 = .ok (.iconst 1, 1) := by decide +kernel
theorem dX6_init_84 : decode cX6_init 84 = .ok (.iconst 3, 1) := by decide +kernel
theorem dX6_init_85 : decode cX6_init 85 = .ok (.iastore, 1) := by decide +kernel
theorem dX6_init_86 : decode cX6_init 86 = .ok (.dup, 1) := by decide +kernel
theorem dX6_init_87 : decode cX6_init 87 = .ok (.iconst 2, 1) := by decide +kernel
theorem dX6_init_88 : decode cX6_init 88 = .ok (.iconst 3, 1) := by decide +kernel
theorem dX6_init_89 : decode cX6_init 89 = .ok (.iastore, 1) := by decide +kernel
theorem dX6_init_90 : decode cX6_init 90 = .ok (.dup, 1) := by decide +kernel
theorem dX6_init_91 : decode cX6_init 91 = .ok (.iconst 3, 1) := by decide +kernel
theorem dX6_init_92 : decode cX6_init 92 = .ok (.iconst 3, 1) := by decide +kernel
theorem dX6_init_93 : decode cX6_init 93 = .ok (.iastore, 1) := by decide +kernel
theorem dX6_init_94 : decode cX6_init 94 = .ok (.dup, 1) := by decide +kernel
theorem dX6_init_95 : decode cX6_init 95 = .ok (.iconst 4, 1) := by decide +kernel
theorem dX6_init_96 : decode cX6_init 96 = .ok (.iconst 3, 1) := by decide +kernel
theorem dX6_init_97 : decode cX6_init 97 = .ok (.iastore, 1) := by decide +kernel
theorem dX6_init_98 : decode cX6_init 98 = .ok (.putfield 16, 3) := by decide +kernel
theorem dX6_init_101 : decode cX6_init 101 = .ok (.aload_n 0, 1) := by decide +kernel
theorem dX6_init_102 : decode cX6_init 102 = .ok (.iconst 5, 1) := by decide +kernel
theorem dX6_init_103 : decode cX6_init 103 = .ok (.newarray .boolean, 2) := by decide +kernel
theorem dX6_init_105 : decode cX6_init 105 = .ok (.dup, 1) := by decide +kernel
theorem dX6_init_106 : decode cX6_init 106 = .ok (.iconst 0, 1) := by decide +kernel
theorem dX6_init_107 : decode cX6_init 107 = .ok (.iconst 1, 1) := by decide +kernel
theorem dX6_init_108 : decode cX6_init 108 = .ok (.bastore, 1) := by decide +kernel
theorem dX6_init_109 : decode cX6_init 109 = .ok (.dup, 1) := by decide +kernel
theorem dX6_init_110 : decode cX6_init 110 = .ok (.iconst 1, 1) := by decide +kernel
theorem dX6_init_111 : decode cX6_init 111 = .ok (.iconst 1, 1) := by decide +kernel
theorem dX6_init_112 : decode cX6_init 112 = .ok (.bastore, 1) := by decide +kernel
theorem dX6_init_113 : decode cX6_init 113 = .ok (.dup, 1) := by decide +kernel
theorem dX6_init_114 : decode cX6_init 114 = .ok (.iconst 2, 1) := by decide +kernel
theorem dX6_init_115 : decode cX6_init 115 = .ok (.iconst 1, 1) := by decide +kernel
theorem dX6_init_116 : decode cX6_init 116 = .ok (.bastore, 1) := by decide +kernel
theorem dX6_init_117 : decode cX6_init 117 = .ok (.dup, 1) := by decide +kernel
theorem dX6_init_118 : decode cX6_init 118 = .ok (.iconst 3, 1) := by decide +kernel
theorem dX6_init_119 : decode cX6_init 119 = .ok (.iconst 1, 1) := by decide +kernel
theorem dX6_init_120 : decode cX6_init 120 = .ok (.bastore, 1) := by decide +kernel
theorem dX6_init_121 : decode cX6_init 121 = .ok (.dup, 1) := by decide +kernel
theorem dX6_init_122 : decode cX6_init 122 = .ok (.iconst 4, 1) := by decide +kernel
theorem dX6_init_123 : decode cX6_init 123 = .ok (.iconst 1, 1) := by decide +kernel
theorem dX6_init_124 : decode cX6_init 124 = .ok (.bastore, 1) := by decide +kernel
theorem dX6_init_125 : decode cX6_init 125 = .ok (.putfield 19, 3) := by decide +kernel
theorem dX6_init_128 : decode cX6_init 128 = .ok (.aload_n 0, 1) := by decide +kernel
theorem dX6_init_129 : decode cX6_init 129 = .ok (.iconst 0, 1) := by decide +kernel
theorem dX6_init_130 : decode cX6_init 130 = .ok (.anewarray 23, 3) := by decide +kernel
theorem dX6_init_133 : decode cX6_init 133 = .ok (.putfield 24, 3) := by decide +kernel
theorem dX6_init_136 : decode cX6_init 136 = .ok (.aload_n 0, 1) := by decide +kernel
theorem dX6_init_137 : decode cX6_init 137 = .ok (.iconst 0, 1) := by decide +kernel
theorem dX6_init_138 : decode cX6_init 138 = .ok (.anewarray 28, 3) := by decide +kernel
theorem dX6_init_141 : decode cX6_init 141 = .ok (.putfield 30, 3) := by decide +kernel
theorem dX6_init_144 : decode cX6_init 144 = .ok (.return_, 1) := by decide +kernel
theorem dX6_build_0 : decode cX6_build 0 = .ok (.aload_n 0, 1) := by decide +kernel
theorem dX6_build_1 : decode cX6_build 1 = .ok (.iload_n 1, 1) := by decide +kernel
theorem dX6_build_2 : decode cX6_build 2 = .ok (.newarray .int, 2) := by decide +kernel
theorem dX6_build_4 : decode cX6_build 4 = .ok (.putfield 7, 3) := by decide +kernel
theorem dX6_build_7 : decode cX6_build 7 = .ok (.aload_n 0, 1) := by decide +kernel
theorem dX6_build_8 : decode cX6_build 8 = .ok (.iload_n 1, 1) := by decide +kernel
theorem dX6_build_9 : decode cX6_build 9 = .ok (.newarray .int, 2) := by decide +kernel
theorem dX6_build_11 : decode cX6_build 11 = .ok (.putfield 13, 3) := by decide +kernel
theorem dX6_build_14 : decode cX6_build 14 = .ok (.aload_n 0, 1) := by decide +kernel
theorem dX6_build_15 : decode cX6_build 15 = .ok (.iload_n 1, 1) := by decide +kernel
theorem dX6_build_16 : decode cX6_build 16 = .ok (.iconst 1, 1) := by decide +kernel
theorem dX6_build_17 : decode cX6_build 17 = .ok (.isub, 1) := by decide +kernel
theorem dX6_build_18 : decode cX6_build 18 = .ok (.newarray .int, 2) := by decide +kernel
theorem dX6_build_20 : decode cX6_build 20 = .ok (.putfield 16, 3) := by decide +kernel
theorem dX6_build_23 : decode cX6_build 23 = .ok (.aload_n 0, 1) := by decide +kernel
theorem dX6_build_24 : decode cX6_build 24 = .ok (.iload_n 1, 1) := by decide +kernel
theorem dX6_build_25 : decode cX6_build 25 = .ok (.iconst 1, 1) := by decide +kernel
theorem dX6_build_26 : decode cX6_build 26 = .ok (.isub, 1) := by decide +kernel
theorem dX6_build_27 : decode cX6_build 27 = .ok (.newarray .boolean, 2) := by decide +kernel
theorem dX6_build_29 : decode cX6_build 29 = .ok (.putfield 19, 3) := by decide +kernel
theorem dX6_build_32 : decode cX6_build 32 = .ok (.iconst 0, 1) := by decide +kernel
theorem dX6_build_33 : decode cX6_build 33 = .ok (.istore_n 2, 1) := by decide +kernel
theorem dX6_build_34 : decode cX6_build 34 = .ok (.iload_n 2, 1) := by decide +kernel
theorem dX6_build_35 : decode cX6_build 35 = .ok (.iload_n 1, 1) := by decide +kernel
theorem dX6_build_36 : decode cX6_build 36 = .ok (.if_icmp .ge 48, 3) := by decide +kernel
theorem dX6_build_39 : decode cX6_build 39 = .ok (.aload_n 0, 1) := by decide +kernel
theorem dX6_build_40 : decode cX6_build 40 = .ok (.getfield 7, 3) := by decide +kernel
theorem dX6_build_43 : decode cX6_build 43 = .ok (.iload_n 2, 1) := by decide +kernel
theorem dX6_build_44 : decode cX6_build 44 = .ok (.bipush 10, 2) := by decide +kernel
theorem dX6_build_46 : decode cX6_build 46 = .ok (.iastore, 1) := by decide +kernel
theorem dX6_build_47 : decode cX6_build 47 = .ok (.aload_n 0, 1) := by decide +kernel
theorem dX6_build_48 : decode cX6_build 48 = .ok (.getfield 13, 3) := by decide +kernel
theorem dX6_build_51 : decode cX6_build 51 = .ok (.iload_n 2, 1) := by decide +kernel
theorem dX6_build_52 : decode cX6_build 52 = .ok (.iconst 2, 1) := by decide +kernel
theorem dX6_build_53 : decode cX6_build 53 = .ok (.iastore, 1) := by decide +kernel
theorem dX6_build_54 : decode cX6_build 54 = .ok (.iload_n 2, 1) := by decide +kernel
theorem dX6_build_55 : decode cX6_build 55 = .ok (.iload_n 1, 1) := by decide +kernel
theorem dX6_build_56 : decode cX6_build 56 = .ok (.iconst 1, 1) := by decide +kernel
theorem dX6_build_57 : decode cX6_build 57 = .ok (.isub, 1) := by decide +kernel
theorem dX6_build_58 : decode cX6_build 58 = .ok (.if_icmp .ne 6, 3) := by decide +kernel
theorem dX6_build_61 : decode cX6_build 61 = .ok (.goto 17, 3) := by decide +kernel
theorem dX6_build_64 : decode cX6_build 64 = .ok (.aload_n 0, 1) := by decide +kernel
theorem dX6_build_65 : decode cX6_build 65 = .ok (.getfield 16, 3) := by decide +kernel
theorem dX6_build_68 : decode cX6_build 68 = .ok (.iload_n 2, 1) := by decide +kernel
theorem dX6_build_69 : decode cX6_build 69 = .ok (.iconst 3, 1) := by decide +kernel
theorem dX6_build_70 : decode cX6_build 70 = .ok (.iastore, 1) := by decide +kernel
theorem dX6_build_71 : decode cX6_build 71 = .ok (.aload_n 0, 1) := by decide +kernel
theorem dX6_build_72 : decode cX6_build 72 = .ok (.getfield 19, 3) := by decide +kernel
theorem dX6_build_75 : decode cX6_build 75 = .ok (.iload_n 2, 1) := by decide +kernel
theorem dX6_build_76 : decode cX6_build 76 = .ok (.iconst 1, 1) := by decide +kernel
theorem dX6_build_77 : decode cX6_build 77 = .ok (.bastore, 1) := by decide +kernel
theorem dX6_build_78 : decode cX6_build 78 = .ok (.iinc 2 1, 3) := by decide +kernel
theorem dX6_build_81 : decode cX6_build 81 = .ok (.goto (-47), 3) := by decide +kernel
theorem dX6_build_84 : decode cX6_build 84 = .ok (.aload_n 0, 1) := by decide +kernel
theorem dX6_build_85 : decode cX6_build 85 = .ok (.iconst 0, 1) := by decide +kernel
theorem dX6_build_86 : decode cX6_build 86 = .ok (.anewarray 23, 3) := by decide +kernel
theorem dX6_build_89 : decode cX6_build 89 = .ok (.putfield 24, 3) := by decide +kernel
theorem dX6_build_92 : decode cX6_build 92 = .ok (.aload_n 0, 1) := by decide +kernel
theorem dX6_build_93 : decode cX6_build 93 = .ok (.iconst 0, 1) := by decide +kernel
theorem dX6_build_94 : decode cX6_build 94 = .ok (.anewarray 28, 3) := by decide +kernel
theorem dX6_build_97 : decode cX6_build 97 = .ok (.putfield 30, 3) := by decide +kernel
theorem dX6_build_100 : decode cX6_build 100 = .ok (.return_, 1) := by decide +kernel
theorem dX6_addLift_0 : decode cX6_addLift 0 = .ok (.aload_n 0, 1) := by decide +kernel
theorem dX6_addLift_1 : decode cX6_addLift 1 = .ok (.getfield 24, 3) := by decide +kernel
theorem dX6_addLift_4 : decode cX6_addLift 4 = .ok (.arraylength, 1) := by decide +kernel
theorem dX6_addLift_5 : decode cX6_addLift 5 = .ok (.iconst 1, 1) := by decide +kernel
theorem dX6_addLift_6 : decode cX6_addLift 6 = .ok (.iadd, 1) := by decide +kernel
theorem dX6_addLift_7 : decode cX6_addLift 7 = .ok (.anewarray 23, 3) := by decide +kernel
theorem dX6_addLift_10 : decode cX6_addLift 10 = .ok (.astore_n 2, 1) := by decide +kernel
theorem dX6_addLift_11 : decode cX6_addLift 11 = .ok (.iconst 0, 1) := by decide +kernel
theorem dX6_addLift_12 : decode cX6_addLift 12 = .ok (.istore_n 3, 1) := by decide +kernel
theorem dX6_addLift_13 : decode cX6_addLift 13 = .ok (.iload_n 3, 1) := by decide +kernel
theorem dX6_addLift_14 : decode cX6_addLift 14 = .ok (.aload_n 0, 1) := by decide +kernel
theorem dX6_addLift_15 : decode cX6_addLift 15 = .ok (.getfield 24, 3) := by decide +kernel
theorem dX6_addLift_18 : decode cX6_addLift 18 = .ok (.arraylength, 1) := by decide +kernel
theorem dX6_addLift_19 : decode cX6_addLift 19 = .ok (.if_icmp .ge 18, 3) := by decide +kernel
theorem dX6_addLift_22 : decode cX6_addLift 22 = .ok (.aload_n 2, 1) := by decide +kernel
theorem dX6_addLift_23 : decode cX6_addLift 23 = .ok (.iload_n 3, 1) := by decide +kernel
theorem dX6_addLift_24 : decode cX6_addLift 24 = .ok (.aload_n 0, 1) := by decide +kernel
theorem dX6_addLift_25 : decode cX6_addLift 25 = .ok (.getfield 24, 3) := by decide +kernel
theorem dX6_addLift_28 : decode cX6_addLift 28 = .ok (.iload_n 3, 1) := by decide +kernel
theorem dX6_addLift_29 : decode cX6_addLift 29 = .ok (.aaload, 1) := by decide +kernel
theorem dX6_addLift_30 : decode cX6_addLift 30 = .ok (.aastore, 1) := by decide +kernel
theorem dX6_addLift_31 : decode cX6_addLift 31 = .ok (.iinc 3 1, 3) := by decide +kernel
theorem dX6_addLift_34 : decode cX6_addLift 34 = .ok (.goto (-21), 3) := by decide +kernel
theorem dX6_addLift_37 : decode cX6_addLift 37 = .ok (.aload_n 2, 1) := by decide +kernel
theorem dX6_addLift_38 : decode cX6_addLift 38 = .ok (.aload_n 0, 1) := by decide +kernel
theorem dX6_addLift_39 : decode cX6_addLift 39 = .ok (.getfield 24, 3) := by decide +kernel
theorem dX6_addLift_42 : decode cX6_addLift 42 = .ok (.arraylength, 1) := by decide +kernel
theorem dX6_addLift_43 : decode cX6_addLift 43 = .ok (.aload_n 1, 1) := by decide +kernel
theorem dX6_addLift_44 : decode cX6_addLift 44 = .ok (.aastore, 1) := by decide +kernel
theorem dX6_addLift_45 : decode cX6_addLift 45 = .ok (.aload_n 0, 1) := by decide +kernel
theorem dX6_addLift_46 : decode cX6_addLift 46 = .ok (.aload_n 2, 1) := by decide +kernel
theorem dX6_addLift_47 : decode cX6_addLift 47 = .ok (.putfield 24, 3) := by decide +kernel
theorem dX6_addLift_50 : decode cX6_addLift 50 = .ok (.return_, 1) := by decide +kernel
theorem dX6_start_0 : decode cX6_start 0 = .ok (.new 28, 3) := by decide +kernel
theorem dX6_start_3 : decode cX6_start 3 = .ok (.dup, 1) := by decide +kernel
theorem dX6_start_4 : decode cX6_start 4 = .ok (.aload_n 0, 1) := by decide +kernel
theorem dX6_start_5 : decode cX6_start 5 = .ok (.getfield 7, 3) := by decide +kernel
theorem dX6_start_8 : decode cX6_start 8 = .ok (.arraylength, 1) := by decide +kernel
theorem dX6_start_9 : decode cX6_start 9 = .ok (.invokespecial 52, 3) := by decide +kernel
theorem dX6_start_12 : decode cX6_start 12 = .ok (.astore_n 3, 1) := by decide +kernel
theorem dX6_start_13 : decode cX6_start 13 = .ok (.aload_n 3, 1) := by decide +kernel
theorem dX6_start_14 : decode cX6_start 14 = .ok (.iload_n 1, 1) := by decide +kernel
theorem dX6_start_15 : decode cX6_start 15 = .ok (.putfield 55, 3) := by decide +kernel
theorem dX6_start_18 : decode cX6_start 18 = .ok (.aload_n 3, 1) := by decide +kernel
theorem dX6_start_19 : decode cX6_start 19 = .ok (.iload_n 2, 1) := by decide +kernel
theorem dX6_start_20 : decode cX6_start 20 = .ok (.putfield 58, 3) := by decide +kernel
theorem dX6_start_23 : decode cX6_start 23 = .ok (.aload_n 0, 1) := by decide +kernel
theorem dX6_start_24 : decode cX6_start 24 = .ok (.getfield 30, 3) := by decide +kernel
theorem dX6_start_27 : decode cX6_start 27 = .ok (.arraylength, 1) := by decide +kernel
theorem dX6_start_28 : decode cX6_start 28 = .ok (.iconst 1, 1) := by decide +kernel
theorem dX6_start_29 : decode cX6_start 29 = .ok (.iadd, 1) := by decide +kernel
theorem dX6_start_30 : decode cX6_start 30 = .ok (.anewarray 28, 3) := by decide +kernel
theorem dX6_start_33 : decode cX6_start 33 = .ok (.astore 4, 2) := by decide +kernel
theorem dX6_start_35 : decode cX6_start 35 = .ok (.iconst 0, 1) := by decide +kernel
theorem dX6_start_36 : decode cX6_start 36 = .ok (.istore 5, 2) := by decide +kernel
theorem dX6_start_38 : decode cX6_start 38 = .ok (.iload 5, 2) := by decide +kernel
theorem dX6_start_40 : decode cX6_start 40 = .ok (.aload_n 0, 1) := by decide +kernel
theorem dX6_start_41 : decode cX6_start 41 = .ok (.getfield 30, 3) := by decide +kernel
theorem dX6_start_44 : decode cX6_start 44 = .ok (.arraylength, 1) := by decide +kernel
theorem dX6_start_45 : decode cX6_start 45 = .ok (.if_icmp .ge 21, 3) := by decide +kernel
theorem dX6_start_48 : decode cX6_start 48 = .ok (.aload 4, 2) := by decide +kernel
theorem dX6_start_50 : decode cX6_start 50 = .ok (.iload 5, 2) := by decide +kernel
theorem dX6_start_52 : decode cX6_start 52 = .ok (.aload_n 0, 1) := by decide +kernel
theorem dX6_start_53 : decode cX6_start 53 = .ok (.getfield 30, 3) := by decide +kernel
theorem dX6_start_56 : decode cX6_start 56 = .ok (.iload 5, 2) := by decide +kernel
theorem dX6_start_58 : decode cX6_start 58 = .ok (.aaload, 1) := by decide +kernel
theorem dX6_start_59 : decode cX6_start 59 = .ok (.aastore, 1) := by decide +kernel
theorem dX6_start_60 : decode cX6_start 60 = .ok (.iinc 5 1, 3) := by decide +kernel
theorem dX6_start_63 : decode cX6_start 63 = .ok (.goto (-25), 3) := by decide +kernel
theorem dX6_start_66 : decode cX6_start 66 = .ok (.aload 4, 2) := by decide +kernel
theorem dX6_start_68 : decode cX6_start 68 = .ok (.aload_n 0, 1) := by decide +kernel
theorem dX6_start_69 : decode cX6_start 69 = .ok (.getfield 30, 3) := by decide +kernel
theorem dX6_start_72 : decode cX6_start 72 = .ok (.arraylength, 1) := by decide +kernel
theorem dX6_start_73 : decode cX6_start 73 = .ok (.aload_n 3, 1) := by decide +kernel
theorem dX6_start_74 : decode cX6_start 74 = .ok (.aastore, 1) := by decide +kernel
theorem dX6_start_75 : decode cX6_start 75 = .ok (.aload_n 0, 1) := by decide +kernel
theorem dX6_start_76 : decode cX6_start 76 = .ok (.aload 4, 2) := by decide +kernel
theorem dX6_start_78 : decode cX6_start 78 = .ok (.putfield 30, 3) := by decide +kernel
theorem dX6_start_81 : decode cX6_start 81 = .ok (.aload_n 0, 1) := by decide +kernel
theorem dX6_start_82 : decode cX6_start 82 = .ok (.aload_n 3, 1) := by decide +kernel
theorem dX6_start_83 : decode cX6_start 83 = .ok (.iload_n 1, 1) := by decide +kernel
theorem dX6_start_84 : decode cX6_start 84 = .ok (.iconst 0, 1) := by decide +kernel
theorem dX6_start_85 : decode cX6_start 85 = .ok (.invokevirtual 61, 3) := by decide +kernel
theorem dX6_start_88 : decode cX6_start 88 = .ok (.return_, 1) := by decide +kernel
theorem dX6_hear_0 : decode cX6_hear 0 = .ok (.aload_n 1, 1) := by decide +kernel
theorem dX6_hear_1 : decode cX6_hear 1 = .ok (.getfield 65, 3) := by decide +kernel
theorem dX6_hear_4 : decode cX6_hear 4 = .ok (.iload_n 2, 1) := by decide +kernel
theorem dX6_hear_5 : decode cX6_hear 5 = .ok (.iaload, 1) := by decide +kernel
theorem dX6_hear_6 : decode cX6_hear 6 = .ok (.ifCond .eq 4, 3) := by decide +kernel
theorem dX6_hear_9 : decode cX6_hear 9 = .ok (.return_, 1) := by decide +kernel
theorem dX6_hear_10 : decode cX6_hear 10 = .ok (.aload_n 1, 1) := by decide +kernel
theorem dX6_hear_11 : decode cX6_hear 11 = .ok (.getfield 65, 3) := by decide +kernel
theorem dX6_hear_14 : decode cX6_hear 14 = .ok (.iload_n 2, 1) := by decide +kernel
theorem dX6_hear_15 : decode cX6_hear 15 = .ok (.iconst 1, 1) := by decide +kernel
theorem dX6_hear_16 : decode cX6_hear 16 = .ok (.iastore, 1) := by decide +kernel
theorem dX6_hear_17 : decode cX6_hear 17 = .ok (.aload_n 1, 1) := by decide +kernel
theorem dX6_hear_18 : decode cX6_hear 18 = .ok (.getfield 68, 3) := by decide +kernel
theorem dX6_hear_21 : decode cX6_hear 21 = .ok (.iload_n 2, 1) := by decide +kernel
theorem dX6_hear_22 : decode cX6_hear 22 = .ok (.aload_n 0, 1) := by decide +kernel
theorem dX6_hear_23 : decode cX6_hear 23 = .ok (.getfield 35, 3) := by decide +kernel
theorem dX6_hear_26 : decode cX6_hear 26 = .ok (.iastore, 1) := by decide +kernel
theorem dX6_hear_27 : decode cX6_hear 27 = .ok (.aload_n 1, 1) := by decide +kernel
theorem dX6_hear_28 : decode cX6_hear 28 = .ok (.getfield 71, 3) := by decide +kernel
theorem dX6_hear_31 : decode cX6_hear 31 = .ok (.iload_n 2, 1) := by decide +kernel
theorem dX6_hear_32 : decode cX6_hear 32 = .ok (.iload_n 3, 1) := by decide +kernel
theorem dX6_hear_33 : decode cX6_hear 33 = .ok (.iastore, 1) := by decide +kernel
theorem dX6_hear_34 : decode cX6_hear 34 = .ok (.aload_n 1, 1) := by decide +kernel
theorem dX6_hear_35 : decode cX6_hear 35 = .ok (.getfield 74, 3) := by decide +kernel
theorem dX6_hear_38 : decode cX6_hear 38 = .ok (.iload_n 2, 1) := by decide +kernel
theorem dX6_hear_39 : decode cX6_hear 39 = .ok (.aload_n 0, 1) := by decide +kernel
theorem dX6_hear_40 : decode cX6_hear 40 = .ok (.getfield 35, 3) := by decide +kernel
theorem dX6_hear_43 : decode cX6_hear 43 = .ok (.aload_n 0, 1) := by decide +kernel
theorem dX6_hear_44 : decode cX6_hear 44 = .ok (.getfield 13, 3) := by decide +kernel
theorem dX6_hear_47 : decode cX6_hear 47 = .ok (.iload_n 2, 1) := by decide +kernel
theorem dX6_hear_48 : decode cX6_hear 48 = .ok (.iaload, 1) := by decide +kernel
theorem dX6_hear_49 : decode cX6_hear 49 = .ok (.iadd, 1) := by decide +kernel
theorem dX6_hear_50 : decode cX6_hear 50 = .ok (.iastore, 1) := by decide +kernel
theorem dX6_hear_51 : decode cX6_hear 51 = .ok (.return_, 1) := by decide +kernel
theorem dX6_deny_0 : decode cX6_deny 0 = .ok (.aload_n 1, 1) := by decide +kernel
theorem dX6_deny_1 : decode cX6_deny 1 = .ok (.getfield 65, 3) := by decide +kernel
theorem dX6_deny_4 : decode cX6_deny 4 = .ok (.iload_n 2, 1) := by decide +kernel
theorem dX6_deny_5 : decode cX6_deny 5 = .ok (.iaload, 1) := by decide +kernel
theorem dX6_deny_6 : decode cX6_deny 6 = .ok (.iconst 2, 1) := by decide +kernel
theorem dX6_deny_7 : decode cX6_deny 7 = .ok (.if_icmp .ne 4, 3) := by decide +kernel
theorem dX6_deny_10 : decode cX6_deny 10 = .ok (.return_, 1) := by decide +kernel
theorem dX6_deny_11 : decode cX6_deny 11 = .ok (.aload_n 1, 1) := by decide +kernel
theorem dX6_deny_12 : decode cX6_deny 12 = .ok (.getfield 65, 3) := by decide +kernel
theorem dX6_deny_15 : decode cX6_deny 15 = .ok (.iload_n 2, 1) := by decide +kernel
theorem dX6_deny_16 : decode cX6_deny 16 = .ok (.iconst 2, 1) := by decide +kernel
theorem dX6_deny_17 : decode cX6_deny 17 = .ok (.iastore, 1) := by decide +kernel
theorem dX6_deny_18 : decode cX6_deny 18 = .ok (.aload_n 1, 1) := by decide +kernel
theorem dX6_deny_19 : decode cX6_deny 19 = .ok (.getfield 77, 3) := by decide +kernel
theorem dX6_deny_22 : decode cX6_deny 22 = .ok (.iload_n 2, 1) := by decide +kernel
theorem dX6_deny_23 : decode cX6_deny 23 = .ok (.aload_n 0, 1) := by decide +kernel
theorem dX6_deny_24 : decode cX6_deny 24 = .ok (.getfield 35, 3) := by decide +kernel
theorem dX6_deny_27 : decode cX6_deny 27 = .ok (.iastore, 1) := by decide +kernel
theorem dX6_deny_28 : decode cX6_deny 28 = .ok (.aload_n 1, 1) := by decide +kernel
theorem dX6_deny_29 : decode cX6_deny 29 = .ok (.getfield 74, 3) := by decide +kernel
theorem dX6_deny_32 : decode cX6_deny 32 = .ok (.iload_n 2, 1) := by decide +kernel
theorem dX6_deny_33 : decode cX6_deny 33 = .ok (.iconst (-1), 1) := by decide +kernel
theorem dX6_deny_34 : decode cX6_deny 34 = .ok (.iastore, 1) := by decide +kernel
theorem dX6_deny_35 : decode cX6_deny 35 = .ok (.aload_n 1, 1) := by decide +kernel
theorem dX6_deny_36 : decode cX6_deny 36 = .ok (.getfield 80, 3) := by decide +kernel
theorem dX6_deny_39 : decode cX6_deny 39 = .ok (.iload_n 2, 1) := by decide +kernel
theorem dX6_deny_40 : decode cX6_deny 40 = .ok (.aload_n 0, 1) := by decide +kernel
theorem dX6_deny_41 : decode cX6_deny 41 = .ok (.getfield 35, 3) := by decide +kernel
theorem dX6_deny_44 : decode cX6_deny 44 = .ok (.aload_n 0, 1) := by decide +kernel
theorem dX6_deny_45 : decode cX6_deny 45 = .ok (.getfield 13, 3) := by decide +kernel
theorem dX6_deny_48 : decode cX6_deny 48 = .ok (.iload_n 2, 1) := by decide +kernel
theorem dX6_deny_49 : decode cX6_deny 49 = .ok (.iaload, 1) := by decide +kernel
theorem dX6_deny_50 : decode cX6_deny 50 = .ok (.iconst 2, 1) := by decide +kernel
theorem dX6_deny_51 : decode cX6_deny 51 = .ok (.idiv, 1) := by decide +kernel
theorem dX6_deny_52 : decode cX6_deny 52 = .ok (.iadd, 1) := by decide +kernel
theorem dX6_deny_53 : decode cX6_deny 53 = .ok (.iastore, 1) := by decide +kernel
theorem dX6_deny_54 : decode cX6_deny 54 = .ok (.return_, 1) := by decide +kernel
theorem dX6_serves_0 : decode cX6_serves 0 = .ok (.aload_n 0, 1) := by decide +kernel
theorem dX6_serves_1 : decode cX6_serves 1 = .ok (.iconst 0, 1) := by decide +kernel
theorem dX6_serves_2 : decode cX6_serves 2 = .ok (.iaload, 1) := by decide +kernel
theorem dX6_serves_3 : decode cX6_serves 3 = .ok (.istore_n 2, 1) := by decide +kernel
theorem dX6_serves_4 : decode cX6_serves 4 = .ok (.iload_n 2, 1) := by decide +kernel
theorem dX6_serves_5 : decode cX6_serves 5 = .ok (.aload_n 0, 1) := by decide +kernel
theorem dX6_serves_6 : decode cX6_serves 6 = .ok (.iconst 1, 1) := by decide +kernel
theorem dX6_serves_7 : decode cX6_serves 7 = .ok (.iaload, 1) := by decide +kernel
theorem dX6_serves_8 : decode cX6_serves 8 = .ok (.if_icmp .gt 19, 3) := by decide +kernel
theorem dX6_serves_11 : decode cX6_serves 11 = .ok (.iload_n 2, 1) := by decide +kernel
theorem dX6_serves_12 : decode cX6_serves 12 = .ok (.iload_n 1, 1) := by decide +kernel
theorem dX6_serves_13 : decode cX6_serves 13 = .ok (.if_icmp .ne 5, 3) := by decide +kernel
theorem dX6_serves_16 : decode cX6_serves 16 = .ok (.iconst 1, 1) := by decide +kernel
theorem dX6_serves_17 : decode cX6_serves 17 = .ok (.ireturn, 1) := by decide +kernel
theorem dX6_serves_18 : decode cX6_serves 18 = .ok (.iload_n 2, 1) := by decide +kernel
theorem dX6_serves_19 : decode cX6_serves 19 = .ok (.aload_n 0, 1) := by decide +kernel
theorem dX6_serves_20 : decode cX6_serves 20 = .ok (.iconst 2, 1) := by decide +kernel
theorem dX6_serves_21 : decode cX6_serves 21 = .ok (.iaload, 1) := by decide +kernel
theorem dX6_serves_22 : decode cX6_serves 22 = .ok (.iadd, 1) := by decide +kernel
theorem dX6_serves_23 : decode cX6_serves 23 = .ok (.istore_n 2, 1) := by decide +kernel
theorem dX6_serves_24 : decode cX6_serves 24 = .ok (.goto (-20), 3) := by decide +kernel
theorem dX6_serves_27 : decode cX6_serves 27 = .ok (.iconst 0, 1) := by decide +kernel
theorem dX6_serves_28 : decode cX6_serves 28 = .ok (.ireturn, 1) := by decide +kernel
theorem dX6_pipe_0 : decode cX6_pipe 0 = .ok (.iload_n 1, 1) := by decide +kernel
theorem dX6_pipe_1 : decode cX6_pipe 1 = .ok (.iload_n 2, 1) := by decide +kernel
theorem dX6_pipe_2 : decode cX6_pipe 2 = .ok (.if_icmp .ne 5, 3) := by decide +kernel
theorem dX6_pipe_5 : decode cX6_pipe 5 = .ok (.iconst (-1), 1) := by decide +kernel
theorem dX6_pipe_6 : decode cX6_pipe 6 = .ok (.ireturn, 1) := by decide +kernel
theorem dX6_pipe_7 : decode cX6_pipe 7 = .ok (.bipush 99, 2) := by decide +kernel
theorem dX6_pipe_9 : decode cX6_pipe 9 = .ok (.istore_n 3, 1) := by decide +kernel
theorem dX6_pipe_10 : decode cX6_pipe 10 = .ok (.iload_n 1, 1) := by decide +kernel
theorem dX6_pipe_11 : decode cX6_pipe 11 = .ok (.iload_n 2, 1) := by decide +kernel
theorem dX6_pipe_12 : decode cX6_pipe 12 = .ok (.iconst 1, 1) := by decide +kernel
theorem dX6_pipe_13 : decode cX6_pipe 13 = .ok (.iadd, 1) := by decide +kernel
theorem dX6_pipe_14 : decode cX6_pipe 14 = .ok (.if_icmp .ne 19, 3) := by decide +kernel
theorem dX6_pipe_17 : decode cX6_pipe 17 = .ok (.aload_n 0, 1) := by decide +kernel
theorem dX6_pipe_18 : decode cX6_pipe 18 = .ok (.getfield 19, 3) := by decide +kernel
theorem dX6_pipe_21 : decode cX6_pipe 21 = .ok (.iload_n 2, 1) := by decide +kernel
theorem dX6_pipe_22 : decode cX6_pipe 22 = .ok (.baload, 1) := by decide +kernel
theorem dX6_pipe_23 : decode cX6_pipe 23 = .ok (.ifCond .eq 10, 3) := by decide +kernel
theorem dX6_pipe_26 : decode cX6_pipe 26 = .ok (.aload_n 0, 1) := by decide +kernel
theorem dX6_pipe_27 : decode cX6_pipe 27 = .ok (.getfield 16, 3) := by decide +kernel
theorem dX6_pipe_30 : decode cX6_pipe 30 = .ok (.iload_n 2, 1) := by decide +kernel
theorem dX6_pipe_31 : decode cX6_pipe 31 = .ok (.iaload, 1) := by decide +kernel
theorem dX6_pipe_32 : decode cX6_pipe 32 = .ok (.istore_n 3, 1) := by decide +kernel
theorem dX6_pipe_33 : decode cX6_pipe 33 = .ok (.iload_n 2, 1) := by decide +kernel
theorem dX6_pipe_34 : decode cX6_pipe 34 = .ok (.iload_n 1, 1) := by decide +kernel
theorem dX6_pipe_35 : decode cX6_pipe 35 = .ok (.iconst 1, 1) := by decide +kernel
theorem dX6_pipe_36 : decode cX6_pipe 36 = .ok (.iadd, 1) := by decide +kernel
theorem dX6_pipe_37 : decode cX6_pipe 37 = .ok (.if_icmp .ne 19, 3) := by decide +kernel
theorem dX6_pipe_40 : decode cX6_pipe 40 = .ok (.aload_n 0, 1) := by decide +kernel
theorem dX6_pipe_41 : decode cX6_pipe 41 = .ok (.getfield 19, 3) := by decide +kernel
theorem dX6_pipe_44 : decode cX6_pipe 44 = .ok (.iload_n 1, 1) := by decide +kernel
theorem dX6_pipe_45 : decode cX6_pipe 45 = .ok (.baload, 1) := by decide +kernel
theorem dX6_pipe_46 : decode cX6_pipe 46 = .ok (.ifCond .eq 10, 3) := by decide +kernel
theorem dX6_pipe_49 : decode cX6_pipe 49 = .ok (.aload_n 0, 1) := by decide +kernel
theorem dX6_pipe_50 : decode cX6_pipe 50 = .ok (.getfield 16, 3) := by decide +kernel
theorem dX6_pipe_53 : decode cX6_pipe 53 = .ok (.iload_n 1, 1) := by decide +kernel
theorem dX6_pipe_54 : decode cX6_pipe 54 = .ok (.iaload, 1) := by decide +kernel
theorem dX6_pipe_55 : decode cX6_pipe 55 = .ok (.istore_n 3, 1) := by decide +kernel
theorem dX6_pipe_56 : decode cX6_pipe 56 = .ok (.aload_n 0, 1) := by decide +kernel
theorem dX6_pipe_57 : decode cX6_pipe 57 = .ok (.getfield 24, 3) := by decide +kernel
theorem dX6_pipe_60 : decode cX6_pipe 60 = .ok (.astore 4, 2) := by decide +kernel
theorem dX6_pipe_62 : decode cX6_pipe 62 = .ok (.aload 4, 2) := by decide +kernel
theorem dX6_pipe_64 : decode cX6_pipe 64 = .ok (.arraylength, 1) := by decide +kernel
theorem dX6_pipe_65 : decode cX6_pipe 65 = .ok (.istore 5, 2) := by decide +kernel
theorem dX6_pipe_67 : decode cX6_pipe 67 = .ok (.iconst 0, 1) := by decide +kernel
theorem dX6_pipe_68 : decode cX6_pipe 68 = .ok (.istore 6, 2) := by decide +kernel
theorem dX6_pipe_70 : decode cX6_pipe 70 = .ok (.iload 6, 2) := by decide +kernel
theorem dX6_pipe_72 : decode cX6_pipe 72 = .ok (.iload 5, 2) := by decide +kernel
theorem dX6_pipe_74 : decode cX6_pipe 74 = .ok (.if_icmp .ge 68, 3) := by decide +kernel
theorem dX6_pipe_77 : decode cX6_pipe 77 = .ok (.aload 4, 2) := by decide +kernel
theorem dX6_pipe_79 : decode cX6_pipe 79 = .ok (.iload 6, 2) := by decide +kernel
theorem dX6_pipe_81 : decode cX6_pipe 81 = .ok (.aaload, 1) := by decide +kernel
theorem dX6_pipe_82 : decode cX6_pipe 82 = .ok (.astore 7, 2) := by decide +kernel
theorem dX6_pipe_84 : decode cX6_pipe 84 = .ok (.aload 7, 2) := by decide +kernel
theorem dX6_pipe_86 : decode cX6_pipe 86 = .ok (.iconst 4, 1) := by decide +kernel
theorem dX6_pipe_87 : decode cX6_pipe 87 = .ok (.iaload, 1) := by decide +kernel
theorem dX6_pipe_88 : decode cX6_pipe 88 = .ok (.iconst 1, 1) := by decide +kernel
theorem dX6_pipe_89 : decode cX6_pipe 89 = .ok (.if_icmp .ne 47, 3) := by decide +kernel
theorem dX6_pipe_92 : decode cX6_pipe 92 = .ok (.aload 7, 2) := by decide +kernel
theorem dX6_pipe_94 : decode cX6_pipe 94 = .ok (.iload_n 1, 1) := by decide +kernel
theorem dX6_pipe_95 : decode cX6_pipe 95 = .ok (.invokestatic 83, 3) := by decide +kernel
theorem dX6_pipe_98 : decode cX6_pipe 98 = .ok (.ifCond .eq 38, 3) := by decide +kernel
theorem dX6_pipe_101 : decode cX6_pipe 101 = .ok (.aload 7, 2) := by decide +kernel
theorem dX6_pipe_103 : decode cX6_pipe 103 = .ok (.iload_n 2, 1) := by decide +kernel
theorem dX6_pipe_104 : decode cX6_pipe 104 = .ok (.invokestatic 83, 3) := by decide +kernel
theorem dX6_pipe_107 : decode cX6_pipe 107 = .ok (.ifCond .eq 29, 3) := by decide +kernel
theorem dX6_pipe_110 : decode cX6_pipe 110 = .ok (.iload_n 3, 1) := by decide +kernel
theorem dX6_pipe_111 : decode cX6_pipe 111 = .ok (.aload 7, 2) := by decide +kernel
theorem dX6_pipe_113 : decode cX6_pipe 113 = .ok (.iconst 3, 1) := by decide +kernel
theorem dX6_pipe_114 : decode cX6_pipe 114 = .ok (.iaload, 1) := by decide +kernel
theorem dX6_pipe_115 : decode cX6_pipe 115 = .ok (.iload_n 1, 1) := by decide +kernel
theorem dX6_pipe_116 : decode cX6_pipe 116 = .ok (.iload_n 2, 1) := by decide +kernel
theorem dX6_pipe_117 : decode cX6_pipe 117 = .ok (.if_icmp .le 9, 3) := by decide +kernel
theorem dX6_pipe_120 : decode cX6_pipe 120 = .ok (.iload_n 1, 1) := by decide +kernel
theorem dX6_pipe_121 : decode cX6_pipe 121 = .ok (.iload_n 2, 1) := by decide +kernel
theorem dX6_pipe_122 : decode cX6_pipe 122 = .ok (.isub, 1) := by decide +kernel
theorem dX6_pipe_123 : decode cX6_pipe 123 = .ok (.goto 6, 3) := by decide +kernel
theorem dX6_pipe_126 : decode cX6_pipe 126 = .ok (.iload_n 2, 1) := by decide +kernel
theorem dX6_pipe_127 : decode cX6_pipe 127 = .ok (.iload_n 1, 1) := by decide +kernel
theorem dX6_pipe_128 : decode cX6_pipe 128 = .ok (.isub, 1) := by decide +kernel
theorem dX6_pipe_129 : decode cX6_pipe 129 = .ok (.iconst 2, 1) := by decide +kernel
theorem dX6_pipe_130 : decode cX6_pipe 130 = .ok (.idiv, 1) := by decide +kernel
theorem dX6_pipe_131 : decode cX6_pipe 131 = .ok (.iadd, 1) := by decide +kernel
theorem dX6_pipe_132 : decode cX6_pipe 132 = .ok (.invokestatic 87, 3) := by decide +kernel
theorem dX6_pipe_135 : decode cX6_pipe 135 = .ok (.istore_n 3, 1) := by decide +kernel
theorem dX6_pipe_136 : decode cX6_pipe 136 = .ok (.iinc 6 1, 3) := by decide +kernel
theorem dX6_pipe_139 : decode cX6_pipe 139 = .ok (.goto (-69), 3) := by decide +kernel
theorem dX6_pipe_142 : decode cX6_pipe 142 = .ok (.iload_n 3, 1) := by decide +kernel
theorem dX6_pipe_143 : decode cX6_pipe 143 = .ok (.bipush 99, 2) := by decide +kernel
theorem dX6_pipe_145 : decode cX6_pipe 145 = .ok (.if_icmp .ne 7, 3) := by decide +kernel
theorem dX6_pipe_148 : decode cX6_pipe 148 = .ok (.iconst (-1), 1) := by decide +kernel
theorem dX6_pipe_149 : decode cX6_pipe 149 = .ok (.goto 4, 3) := by decide +kernel
theorem dX6_pipe_152 : decode cX6_pipe 152 = .ok (.iload_n 3, 1) := by decide +kernel
theorem dX6_pipe_153 : decode cX6_pipe 153 = .ok (.ireturn, 1) := by decide +kernel
theorem dX6_pass_0 : decode cX6_pass 0 = .ok (.aload_n 0, 1) := by decide +kernel
theorem dX6_pass_1 : decode cX6_pass 1 = .ok (.getfield 30, 3) := by decide +kernel
theorem dX6_pass_4 : decode cX6_pass 4 = .ok (.astore_n 1, 1) := by decide +kernel
theorem dX6_pass_5 : decode cX6_pass 5 = .ok (.aload_n 1, 1) := by decide +kernel
theorem dX6_pass_6 : decode cX6_pass 6 = .ok (.arraylength, 1) := by decide +kernel
theorem dX6_pass_7 : decode cX6_pass 7 = .ok (.istore_n 2, 1) := by decide +kernel
theorem dX6_pass_8 : decode cX6_pass 8 = .ok (.iconst 0, 1) := by decide +kernel
theorem dX6_pass_9 : decode cX6_pass 9 = .ok (.istore_n 3, 1) := by decide +kernel
theorem dX6_pass_10 : decode cX6_pass 10 = .ok (.iload_n 3, 1) := by decide +kernel
theorem dX6_pass_11 : decode cX6_pass 11 = .ok (.iload_n 2, 1) := by decide +kernel
theorem dX6_pass_12 : decode cX6_pass 12 = .ok (.if_icmp .ge 344, 3) := by decide +kernel
theorem dX6_pass_15 : decode cX6_pass 15 = .ok (.aload_n 1, 1) := by decide +kernel
theorem dX6_pass_16 : decode cX6_pass 16 = .ok (.iload_n 3, 1) := by decide +kernel
theorem dX6_pass_17 : decode cX6_pass 17 = .ok (.aaload, 1) := by decide +kernel
theorem dX6_pass_18 : decode cX6_pass 18 = .ok (.astore 4, 2) := by decide +kernel
theorem dX6_pass_20 : decode cX6_pass 20 = .ok (.aload 4, 2) := by decide +kernel
theorem dX6_pass_22 : decode cX6_pass 22 = .ok (.getfield 65, 3) := by decide +kernel
theorem dX6_pass_25 : decode cX6_pass 25 = .ok (.arraylength, 1) := by decide +kernel
theorem dX6_pass_26 : decode cX6_pass 26 = .ok (.istore 5, 2) := by decide +kernel
theorem dX6_pass_28 : decode cX6_pass 28 = .ok (.aload 4, 2) := by decide +kernel
theorem dX6_pass_30 : decode cX6_pass 30 = .ok (.aload_n 0, 1) := by decide +kernel
theorem dX6_pass_31 : decode cX6_pass 31 = .ok (.getfield 35, 3) := by decide +kernel
theorem dX6_pass_34 : decode cX6_pass 34 = .ok (.iconst 0, 1) := by decide +kernel
theorem dX6_pass_35 : decode cX6_pass 35 = .ok (.invokevirtual 100, 3) := by decide +kernel
theorem dX6_pass_38 : decode cX6_pass 38 = .ok (.ifCond .eq 52, 3) := by decide +kernel
theorem dX6_pass_41 : decode cX6_pass 41 = .ok (.aload 4, 2) := by decide +kernel
theorem dX6_pass_43 : decode cX6_pass 43 = .ok (.aload_n 0, 1) := by decide +kernel
theorem dX6_pass_44 : decode cX6_pass 44 = .ok (.getfield 35, 3) := by decide +kernel
theorem dX6_pass_47 : decode cX6_pass 47 = .ok (.iconst 0, 1) := by decide +kernel
theorem dX6_pass_48 : decode cX6_pass 48 = .ok (.invokevirtual 104, 3) := by decide +kernel
theorem dX6_pass_51 : decode cX6_pass 51 = .ok (.astore 6, 2) := by decide +kernel
theorem dX6_pass_53 : decode cX6_pass 53 = .ok (.iconst 0, 1) := by decide +kernel
theorem dX6_pass_54 : decode cX6_pass 54 = .ok (.istore 7, 2) := by decide +kernel
theorem dX6_pass_56 : decode cX6_pass 56 = .ok (.iload 7, 2) := by decide +kernel
theorem dX6_pass_58 : decode cX6_pass 58 = .ok (.iload 5, 2) := by decide +kernel
theorem dX6_pass_60 : decode cX6_pass 60 = .ok (.if_icmp .ge 30, 3) := by decide +kernel
theorem dX6_pass_63 : decode cX6_pass 63 = .ok (.aload 6, 2) := by decide +kernel
theorem dX6_pass_65 : decode cX6_pass 65 = .ok (.iload 7, 2) := by decide +kernel
theorem dX6_pass_67 : decode cX6_pass 67 = .ok (.iaload, 1) := by decide +kernel
theorem dX6_pass_68 : decode cX6_pass 68 = .ok (.ifCond .lt 16, 3) := by decide +kernel
theorem dX6_pass_71 : decode cX6_pass 71 = .ok (.aload_n 0, 1) := by decide +kernel
theorem dX6_pass_72 : decode cX6_pass 72 = .ok (.aload 4, 2) := by decide +kernel
theorem dX6_pass_74 : decode cX6_pass 74 = .ok (.iload 7, 2) := by decide +kernel
theorem dX6_pass_76 : decode cX6_pass 76 = .ok (.aload 6, 2) := by decide +kernel
theorem dX6_pass_78 : decode cX6_pass 78 = .ok (.iload 7, 2) := by decide +kernel
theorem dX6_pass_80 : decode cX6_pass 80 = .ok (.iaload, 1) := by decide +kernel
theorem dX6_pass_81 : decode cX6_pass 81 = .ok (.invokevirtual 61, 3) := by decide +kernel
theorem dX6_pass_84 : decode cX6_pass 84 = .ok (.iinc 7 1, 3) := by decide +kernel
theorem dX6_pass_87 : decode cX6_pass 87 = .ok (.goto (-31), 3) := by decide +kernel
theorem dX6_pass_90 : decode cX6_pass 90 = .ok (.aload 4, 2) := by decide +kernel
theorem dX6_pass_92 : decode cX6_pass 92 = .ok (.aload_n 0, 1) := by decide +kernel
theorem dX6_pass_93 : decode cX6_pass 93 = .ok (.getfield 35, 3) := by decide +kernel
theorem dX6_pass_96 : decode cX6_pass 96 = .ok (.iconst 1, 1) := by decide +kernel
theorem dX6_pass_97 : decode cX6_pass 97 = .ok (.invokevirtual 100, 3) := by decide +kernel
theorem dX6_pass_100 : decode cX6_pass 100 = .ok (.ifCond .eq 47, 3) := by decide +kernel
theorem dX6_pass_103 : decode cX6_pass 103 = .ok (.aload 4, 2) := by decide +kernel
theorem dX6_pass_105 : decode cX6_pass 105 = .ok (.aload_n 0, 1) := by decide +kernel
theorem dX6_pass_106 : decode cX6_pass 106 = .ok (.getfield 35, 3) := by decide +kernel
theorem dX6_pass_109 : decode cX6_pass 109 = .ok (.iconst 1, 1) := by decide +kernel
theorem dX6_pass_110 : decode cX6_pass 110 = .ok (.invokevirtual 104, 3) := by decide +kernel
theorem dX6_pass_113 : decode cX6_pass 113 = .ok (.astore 6, 2) := by decide +kernel
theorem dX6_pass_115 : decode cX6_pass 115 = .ok (.iconst 0, 1) := by decide +kernel
theorem dX6_pass_116 : decode cX6_pass 116 = .ok (.istore 7, 2) := by decide +kernel
theorem dX6_pass_118 : decode cX6_pass 118 = .ok (.iload 7, 2) := by decide +kernel
theorem dX6_pass_120 : decode cX6_pass 120 = .ok (.iload 5, 2) := by decide +kernel
theorem dX6_pass_122 : decode cX6_pass 122 = .ok (.if_icmp .ge 25, 3) := by decide +kernel
theorem dX6_pass_125 : decode cX6_pass 125 = .ok (.aload 6, 2) := by decide +kernel
theorem dX6_pass_127 : decode cX6_pass 127 = .ok (.iload 7, 2) := by decide +kernel
theorem dX6_pass_129 : decode cX6_pass 129 = .ok (.iaload, 1) := by decide +kernel
theorem dX6_pass_130 : decode cX6_pass 130 = .ok (.ifCond .lt 11, 3) := by decide +kernel
theorem dX6_pass_133 : decode cX6_pass 133 = .ok (.aload_n 0, 1) := by decide +kernel
theorem dX6_pass_134 : decode cX6_pass 134 = .ok (.aload 4, 2) := by decide +kernel
theorem dX6_pass_136 : decode cX6_pass 136 = .ok (.iload 7, 2) := by decide +kernel
theorem dX6_pass_138 : decode cX6_pass 138 = .ok (.invokevirtual 108, 3) := by decide +kernel
theorem dX6_pass_141 : decode cX6_pass 141 = .ok (.iinc 7 1, 3) := by decide +kernel
theorem dX6_pass_144 : decode cX6_pass 144 = .ok (.goto (-26), 3) := by decide +kernel
theorem dX6_pass_147 : decode cX6_pass 147 = .ok (.iconst 0, 1) := by decide +kernel
theorem dX6_pass_148 : decode cX6_pass 148 = .ok (.istore 6, 2) := by decide +kernel
theorem dX6_pass_150 : decode cX6_pass 150 = .ok (.iload 6, 2) := by decide +kernel
theorem dX6_pass_152 : decode cX6_pass 152 = .ok (.iload 5, 2) := by decide +kernel
theorem dX6_pass_154 : decode cX6_pass 154 = .ok (.if_icmp .ge 196, 3) := by decide +kernel
theorem dX6_pass_157 : decode cX6_pass 157 = .ok (.aload 4, 2) := by decide +kernel
theorem dX6_pass_159 : decode cX6_pass 159 = .ok (.getfield 74, 3) := by decide +kernel
theorem dX6_pass_162 : decode cX6_pass 162 = .ok (.iload 6, 2) := by decide +kernel
theorem dX6_pass_164 : decode cX6_pass 164 = .ok (.iaload, 1) := by decide +kernel
theorem dX6_pass_165 : decode cX6_pass 165 = .ok (.aload_n 0, 1) := by decide +kernel
theorem dX6_pass_166 : decode cX6_pass 166 = .ok (.getfield 35, 3) := by decide +kernel
theorem dX6_pass_169 : decode cX6_pass 169 = .ok (.if_icmp .ne 7, 3) := by decide +kernel
theorem dX6_pass_172 : decode cX6_pass 172 = .ok (.iconst 1, 1) := by decide +kernel
theorem dX6_pass_173 : decode cX6_pass 173 = .ok (.goto 4, 3) := by decide +kernel
theorem dX6_pass_176 : decode cX6_pass 176 = .ok (.iconst 0, 1) := by decide +kernel
theorem dX6_pass_177 : decode cX6_pass 177 = .ok (.istore 7, 2) := by decide +kernel
theorem dX6_pass_179 : decode cX6_pass 179 = .ok (.aload 4, 2) := by decide +kernel
theorem dX6_pass_181 : decode cX6_pass 181 = .ok (.getfield 80, 3) := by decide +kernel
theorem dX6_pass_184 : decode cX6_pass 184 = .ok (.iload 6, 2) := by decide +kernel
theorem dX6_pass_186 : decode cX6_pass 186 = .ok (.iaload, 1) := by decide +kernel
theorem dX6_pass_187 : decode cX6_pass 187 = .ok (.aload_n 0, 1) := by decide +kernel
theorem dX6_pass_188 : decode cX6_pass 188 = .ok (.getfield 35, 3) := by decide +kernel
theorem dX6_pass_191 : decode cX6_pass 191 = .ok (.if_icmp .ne 7, 3) := by decide +kernel
theorem dX6_pass_194 : decode cX6_pass 194 = .ok (.iconst 1, 1) := by decide +kernel
theorem dX6_pass_195 : decode cX6_pass 195 = .ok (.goto 4, 3) := by decide +kernel
theorem dX6_pass_198 : decode cX6_pass 198 = .ok (.iconst 0, 1) := by decide +kernel
theorem dX6_pass_199 : decode cX6_pass 199 = .ok (.istore 8, 2) := by decide +kernel
theorem dX6_pass_201 : decode cX6_pass 201 = .ok (.iload 7, 2) := by decide +kernel
theorem dX6_pass_203 : decode cX6_pass 203 = .ok (.ifCond .eq 12, 3) := by decide +kernel
theorem dX6_pass_206 : decode cX6_pass 206 = .ok (.aload 4, 2) := by decide +kernel
theorem dX6_pass_208 : decode cX6_pass 208 = .ok (.getfield 74, 3) := by decide +kernel
theorem dX6_pass_211 : decode cX6_pass 211 = .ok (.iload 6, 2) := by decide +kernel
theorem dX6_pass_213 : decode cX6_pass 213 = .ok (.iconst (-1), 1) := by decide +kernel
theorem dX6_pass_214 : decode cX6_pass 214 = .ok (.iastore, 1) := by decide +kernel
theorem dX6_pass_215 : decode cX6_pass 215 = .ok (.iload 8, 2) := by decide +kernel
theorem dX6_pass_217 : decode cX6_pass 217 = .ok (.ifCond .eq 12, 3) := by decide +kernel
theorem dX6_pass_220 : decode cX6_pass 220 = .ok (.aload 4, 2) := by decide +kernel
theorem dX6_pass_222 : decode cX6_pass 222 = .ok (.getfield 80, 3) := by decide +kernel
theorem dX6_pass_225 : decode cX6_pass 225 = .ok (.iload 6, 2) := by decide +kernel
theorem dX6_pass_227 : decode cX6_pass 227 = .ok (.iconst (-1), 1) := by decide +kernel
theorem dX6_pass_228 : decode cX6_pass 228 = .ok (.iastore, 1) := by decide +kernel
theorem dX6_pass_229 : decode cX6_pass 229 = .ok (.iconst 0, 1) := by decide +kernel
theorem dX6_pass_230 : decode cX6_pass 230 = .ok (.istore 9, 2) := by decide +kernel
theorem dX6_pass_232 : decode cX6_pass 232 = .ok (.iload 9, 2) := by decide +kernel
theorem dX6_pass_234 : decode cX6_pass 234 = .ok (.iload 5, 2) := by decide +kernel
theorem dX6_pass_236 : decode cX6_pass 236 = .ok (.if_icmp .ge 108, 3) := by decide +kernel
theorem dX6_pass_239 : decode cX6_pass 239 = .ok (.iload 7, 2) := by decide +kernel
theorem dX6_pass_241 : decode cX6_pass 241 = .ok (.ifCond .ne 8, 3) := by decide +kernel
theorem dX6_pass_244 : decode cX6_pass 244 = .ok (.iload 8, 2) := by decide +kernel
theorem dX6_pass_246 : decode cX6_pass 246 = .ok (.ifCond .eq 14, 3) := by decide +kernel
theorem dX6_pass_249 : decode cX6_pass 249 = .ok (.aload_n 0, 1) := by decide +kernel
theorem dX6_pass_250 : decode cX6_pass 250 = .ok (.iload 6, 2) := by decide +kernel
theorem dX6_pass_252 : decode cX6_pass 252 = .ok (.iload 9, 2) := by decide +kernel
theorem dX6_pass_254 : decode cX6_pass 254 = .ok (.invokevirtual 97, 3) := by decide +kernel
theorem dX6_pass_257 : decode cX6_pass 257 = .ok (.goto 4, 3) := by decide +kernel
theorem dX6_pass_260 : decode cX6_pass 260 = .ok (.iconst (-1), 1) := by decide +kernel
theorem dX6_pass_261 : decode cX6_pass 261 = .ok (.istore 10, 2) := by decide +kernel
theorem dX6_pass_263 : decode cX6_pass 263 = .ok (.iload 10, 2) := by decide +kernel
theorem dX6_pass_265 : decode cX6_pass 265 = .ok (.ifCond .ge 6, 3) := by decide +kernel
theorem dX6_pass_268 : decode cX6_pass 268 = .ok (.goto 70, 3) := by decide +kernel
theorem dX6_pass_271 : decode cX6_pass 271 = .ok (.iload 7, 2) := by decide +kernel
theorem dX6_pass_273 : decode cX6_pass 273 = .ok (.ifCond .eq 44, 3) := by decide +kernel
theorem dX6_pass_276 : decode cX6_pass 276 = .ok (.aload 4, 2) := by decide +kernel
theorem dX6_pass_278 : decode cX6_pass 278 = .ok (.getfield 71, 3) := by decide +kernel
theorem dX6_pass_281 : decode cX6_pass 281 = .ok (.iload 6, 2) := by decide +kernel
theorem dX6_pass_283 : decode cX6_pass 283 = .ok (.iaload, 1) := by decide +kernel
theorem dX6_pass_284 : decode cX6_pass 284 = .ok (.aload 4, 2) := by decide +kernel
theorem dX6_pass_286 : decode cX6_pass 286 = .ok (.getfield 58, 3) := by decide +kernel
theorem dX6_pass_289 : decode cX6_pass 289 = .ok (.if_icmp .ge 28, 3) := by decide +kernel
theorem dX6_pass_292 : decode cX6_pass 292 = .ok (.aload 4, 2) := by decide +kernel
theorem dX6_pass_294 : decode cX6_pass 294 = .ok (.iload 9, 2) := by decide +kernel
theorem dX6_pass_296 : decode cX6_pass 296 = .ok (.aload_n 0, 1) := by decide +kernel
theorem dX6_pass_297 : decode cX6_pass 297 = .ok (.getfield 35, 3) := by decide +kernel
theorem dX6_pass_300 : decode cX6_pass 300 = .ok (.iload 10, 2) := by decide +kernel
theorem dX6_pass_302 : decode cX6_pass 302 = .ok (.iadd, 1) := by decide +kernel
theorem dX6_pass_303 : decode cX6_pass 303 = .ok (.iconst 0, 1) := by decide +kernel
theorem dX6_pass_304 : decode cX6_pass 304 = .ok (.aload 4, 2) := by decide +kernel
theorem dX6_pass_306 : decode cX6_pass 306 = .ok (.getfield 71, 3) := by decide +kernel
theorem dX6_pass_309 : decode cX6_pass 309 = .ok (.iload 6, 2) := by decide +kernel
theorem dX6_pass_311 : decode cX6_pass 311 = .ok (.iaload, 1) := by decide +kernel
theorem dX6_pass_312 : decode cX6_pass 312 = .ok (.iconst 1, 1) := by decide +kernel
theorem dX6_pass_313 : decode cX6_pass 313 = .ok (.iadd, 1) := by decide +kernel
theorem dX6_pass_314 : decode cX6_pass 314 = .ok (.invokevirtual 112, 3) := by decide +kernel
theorem dX6_pass_317 : decode cX6_pass 317 = .ok (.iload 8, 2) := by decide +kernel
theorem dX6_pass_319 : decode cX6_pass 319 = .ok (.ifCond .eq 19, 3) := by decide +kernel
theorem dX6_pass_322 : decode cX6_pass 322 = .ok (.aload 4, 2) := by decide +kernel
theorem dX6_pass_324 : decode cX6_pass 324 = .ok (.iload 9, 2) := by decide +kernel
theorem dX6_pass_326 : decode cX6_pass 326 = .ok (.aload_n 0, 1) := by decide +kernel
theorem dX6_pass_327 : decode cX6_pass 327 = .ok (.getfield 35, 3) := by decide +kernel
theorem dX6_pass_330 : decode cX6_pass 330 = .ok (.iload 10, 2) := by decide +kernel
theorem dX6_pass_332 : decode cX6_pass 332 = .ok (.iadd, 1) := by decide +kernel
theorem dX6_pass_333 : decode cX6_pass 333 = .ok (.iconst 1, 1) := by decide +kernel
theorem dX6_pass_334 : decode cX6_pass 334 = .ok (.iconst 0, 1) := by decide +kernel
theorem dX6_pass_335 : decode cX6_pass 335 = .ok (.invokevirtual 112, 3) := by decide +kernel
theorem dX6_pass_338 : decode cX6_pass 338 = .ok (.iinc 9 1, 3) := by decide +kernel
theorem dX6_pass_341 : decode cX6_pass 341 = .ok (.goto (-109), 3) := by decide +kernel
theorem dX6_pass_344 : decode cX6_pass 344 = .ok (.iinc 6 1, 3) := by decide +kernel
theorem dX6_pass_347 : decode cX6_pass 347 = .ok (.goto (-197), 3) := by decide +kernel
theorem dX6_pass_350 : decode cX6_pass 350 = .ok (.iinc 3 1, 3) := by decide +kernel
theorem dX6_pass_353 : decode cX6_pass 353 = .ok (.goto (-343), 3) := by decide +kernel
theorem dX6_pass_356 : decode cX6_pass 356 = .ok (.aload_n 0, 1) := by decide +kernel
theorem dX6_pass_357 : decode cX6_pass 357 = .ok (.dup, 1) := by decide +kernel
theorem dX6_pass_358 : decode cX6_pass 358 = .ok (.getfield 35, 3) := by decide +kernel
theorem dX6_pass_361 : decode cX6_pass 361 = .ok (.iconst 1, 1) := by decide +kernel
theorem dX6_pass_362 : decode cX6_pass 362 = .ok (.iadd, 1) := by decide +kernel
theorem dX6_pass_363 : decode cX6_pass 363 = .ok (.putfield 35, 3) := by decide +kernel
theorem dX6_pass_366 : decode cX6_pass 366 = .ok (.return_, 1) := by decide +kernel
theorem dX6_pass__0 : decode cX6_pass_ 0 = .ok (.iconst 0, 1) := by decide +kernel
theorem dX6_pass__1 : decode cX6_pass_ 1 = .ok (.istore_n 2, 1) := by decide +kernel
theorem dX6_pass__2 : decode cX6_pass_ 2 = .ok (.iload_n 2, 1) := by decide +kernel
theorem dX6_pass__3 : decode cX6_pass_ 3 = .ok (.iload_n 1, 1) := by decide +kernel
theorem dX6_pass__4 : decode cX6_pass_ 4 = .ok (.if_icmp .ge 13, 3) := by decide +kernel
theorem dX6_pass__7 : decode cX6_pass_ 7 = .ok (.aload_n 0, 1) := by decide +kernel
theorem dX6_pass__8 : decode cX6_pass_ 8 = .ok (.invokevirtual 116, 3) := by decide +kernel
theorem dX6_pass__11 : decode cX6_pass_ 11 = .ok (.iinc 2 1, 3) := by decide +kernel
theorem dX6_pass__14 : decode cX6_pass_ 14 = .ok (.goto (-12), 3) := by decide +kernel
theorem dX6_pass__17 : decode cX6_pass_ 17 = .ok (.return_, 1) := by decide +kernel
theorem dX6_heard_0 : decode cX6_heard 0 = .ok (.iconst 0, 1) := by decide +kernel
theorem dX6_heard_1 : decode cX6_heard 1 = .ok (.istore_n 1, 1) := by decide +kernel
theorem dX6_heard_2 : decode cX6_heard 2 = .ok (.aload_n 0, 1) := by decide +kernel
theorem dX6_heard_3 : decode cX6_heard 3 = .ok (.getfield 30, 3) := by decide +kernel
theorem dX6_heard_6 : decode cX6_heard 6 = .ok (.astore_n 2, 1) := by decide +kernel
theorem dX6_heard_7 : decode cX6_heard 7 = .ok (.aload_n 2, 1) := by decide +kernel
theorem dX6_heard_8 : decode cX6_heard 8 = .ok (.arraylength, 1) := by decide +kernel
theorem dX6_heard_9 : decode cX6_heard 9 = .ok (.istore_n 3, 1) := by decide +kernel
theorem dX6_heard_10 : decode cX6_heard 10 = .ok (.iconst 0, 1) := by decide +kernel
theorem dX6_heard_11 : decode cX6_heard 11 = .ok (.istore 4, 2) := by decide +kernel
theorem dX6_heard_13 : decode cX6_heard 13 = .ok (.iload 4, 2) := by decide +kernel
theorem dX6_heard_15 : decode cX6_heard 15 = .ok (.iload_n 3, 1) := by decide +kernel
theorem dX6_heard_16 : decode cX6_heard 16 = .ok (.if_icmp .ge 23, 3) := by decide +kernel
theorem dX6_heard_19 : decode cX6_heard 19 = .ok (.aload_n 2, 1) := by decide +kernel
theorem dX6_heard_20 : decode cX6_heard 20 = .ok (.iload 4, 2) := by decide +kernel
theorem dX6_heard_22 : decode cX6_heard 22 = .ok (.aaload, 1) := by decide +kernel
theorem dX6_heard_23 : decode cX6_heard 23 = .ok (.astore 5, 2) := by decide +kernel
theorem dX6_heard_25 : decode cX6_heard 25 = .ok (.iload_n 1, 1) := by decide +kernel
theorem dX6_heard_26 : decode cX6_heard 26 = .ok (.aload 5, 2) := by decide +kernel
theorem dX6_heard_28 : decode cX6_heard 28 = .ok (.invokevirtual 119, 3) := by decide +kernel
theorem dX6_heard_31 : decode cX6_heard 31 = .ok (.iadd, 1) := by decide +kernel
theorem dX6_heard_32 : decode cX6_heard 32 = .ok (.istore_n 1, 1) := by decide +kernel
theorem dX6_heard_33 : decode cX6_heard 33 = .ok (.iinc 4 1, 3) := by decide +kernel
theorem dX6_heard_36 : decode cX6_heard 36 = .ok (.goto (-23), 3) := by decide +kernel
theorem dX6_heard_39 : decode cX6_heard 39 = .ok (.iload_n 1, 1) := by decide +kernel
theorem dX6_heard_40 : decode cX6_heard 40 = .ok (.ireturn, 1) := by decide +kernel
theorem dX6_believers_0 : decode cX6_believers 0 = .ok (.iconst 0, 1) := by decide +kernel
theorem dX6_believers_1 : decode cX6_believers 1 = .ok (.istore_n 2, 1) := by decide +kernel
theorem dX6_believers_2 : decode cX6_believers 2 = .ok (.iconst 0, 1) := by decide +kernel
theorem dX6_believers_3 : decode cX6_believers 3 = .ok (.istore_n 3, 1) := by decide +kernel
theorem dX6_believers_4 : decode cX6_believers 4 = .ok (.iload_n 3, 1) := by decide +kernel
theorem dX6_believers_5 : decode cX6_believers 5 = .ok (.aload_n 0, 1) := by decide +kernel
theorem dX6_believers_6 : decode cX6_believers 6 = .ok (.getfield 7, 3) := by decide +kernel
theorem dX6_believers_9 : decode cX6_believers 9 = .ok (.arraylength, 1) := by decide +kernel
theorem dX6_believers_10 : decode cX6_believers 10 = .ok (.if_icmp .ge 37, 3) := by decide +kernel
theorem dX6_believers_13 : decode cX6_believers 13 = .ok (.iload_n 2, 1) := by decide +kernel
theorem dX6_believers_14 : decode cX6_believers 14 = .ok (.aload_n 0, 1) := by decide +kernel
theorem dX6_believers_15 : decode cX6_believers 15 = .ok (.getfield 30, 3) := by decide +kernel
theorem dX6_believers_18 : decode cX6_believers 18 = .ok (.iload_n 1, 1) := by decide +kernel
theorem dX6_believers_19 : decode cX6_believers 19 = .ok (.aaload, 1) := by decide +kernel
theorem dX6_believers_20 : decode cX6_believers 20 = .ok (.getfield 65, 3) := by decide +kernel
theorem dX6_believers_23 : decode cX6_believers 23 = .ok (.iload_n 3, 1) := by decide +kernel
theorem dX6_believers_24 : decode cX6_believers 24 = .ok (.iaload, 1) := by decide +kernel
theorem dX6_believers_25 : decode cX6_believers 25 = .ok (.iconst 1, 1) := by decide +kernel
theorem dX6_believers_26 : decode cX6_believers 26 = .ok (.if_icmp .ne 12, 3) := by decide +kernel
theorem dX6_believers_29 : decode cX6_believers 29 = .ok (.aload_n 0, 1) := by decide +kernel
theorem dX6_believers_30 : decode cX6_believers 30 = .ok (.getfield 7, 3) := by decide +kernel
theorem dX6_believers_33 : decode cX6_believers 33 = .ok (.iload_n 3, 1) := by decide +kernel
theorem dX6_believers_34 : decode cX6_believers 34 = .ok (.iaload, 1) := by decide +kernel
theorem dX6_believers_35 : decode cX6_believers 35 = .ok (.goto 4, 3) := by decide +kernel
theorem dX6_believers_38 : decode cX6_believers 38 = .ok (.iconst 0, 1) := by decide +kernel
theorem dX6_believers_39 : decode cX6_believers 39 = .ok (.iadd, 1) := by decide +kernel
theorem dX6_believers_40 : decode cX6_believers 40 = .ok (.istore_n 2, 1) := by decide +kernel
theorem dX6_believers_41 : decode cX6_believers 41 = .ok (.iinc 3 1, 3) := by decide +kernel
theorem dX6_believers_44 : decode cX6_believers 44 = .ok (.goto (-40), 3) := by decide +kernel
theorem dX6_believers_47 : decode cX6_believers 47 = .ok (.iload_n 2, 1) := by decide +kernel
theorem dX6_believers_48 : decode cX6_believers 48 = .ok (.ireturn, 1) := by decide +kernel
theorem dX6_isSame_0 : decode cX6_isSame 0 = .ok (.iconst 0, 1) := by decide +kernel
theorem dX6_isSame_1 : decode cX6_isSame 1 = .ok (.istore_n 2, 1) := by decide +kernel
theorem dX6_isSame_2 : decode cX6_isSame 2 = .ok (.iconst 0, 1) := by decide +kernel
theorem dX6_isSame_3 : decode cX6_isSame 3 = .ok (.istore_n 3, 1) := by decide +kernel
theorem dX6_isSame_4 : decode cX6_isSame 4 = .ok (.iload_n 3, 1) := by decide +kernel
theorem dX6_isSame_5 : decode cX6_isSame 5 = .ok (.aload_n 0, 1) := by decide +kernel
theorem dX6_isSame_6 : decode cX6_isSame 6 = .ok (.getfield 7, 3) := by decide +kernel
theorem dX6_isSame_9 : decode cX6_isSame 9 = .ok (.arraylength, 1) := by decide +kernel
theorem dX6_isSame_10 : decode cX6_isSame 10 = .ok (.if_icmp .ge 85, 3) := by decide +kernel
theorem dX6_isSame_13 : decode cX6_isSame 13 = .ok (.iload_n 2, 1) := by decide +kernel
theorem dX6_isSame_14 : decode cX6_isSame 14 = .ok (.aload_n 0, 1) := by decide +kernel
theorem dX6_isSame_15 : decode cX6_isSame 15 = .ok (.getfield 7, 3) := by decide +kernel
theorem dX6_isSame_18 : decode cX6_isSame 18 = .ok (.iload_n 3, 1) := by decide +kernel
theorem dX6_isSame_19 : decode cX6_isSame 19 = .ok (.iaload, 1) := by decide +kernel
theorem dX6_isSame_20 : decode cX6_isSame 20 = .ok (.iadd, 1) := by decide +kernel
theorem dX6_isSame_21 : decode cX6_isSame 21 = .ok (.istore_n 2, 1) := by decide +kernel
theorem dX6_isSame_22 : decode cX6_isSame 22 = .ok (.aload_n 1, 1) := by decide +kernel
theorem dX6_isSame_23 : decode cX6_isSame 23 = .ok (.iload_n 3, 1) := by decide +kernel
theorem dX6_isSame_24 : decode cX6_isSame 24 = .ok (.invokevirtual 123, 3) := by decide +kernel
theorem dX6_isSame_27 : decode cX6_isSame 27 = .ok (.aload_n 0, 1) := by decide +kernel
theorem dX6_isSame_28 : decode cX6_isSame 28 = .ok (.getfield 7, 3) := by decide +kernel
theorem dX6_isSame_31 : decode cX6_isSame 31 = .ok (.iload_n 3, 1) := by decide +kernel
theorem dX6_isSame_32 : decode cX6_isSame 32 = .ok (.iaload, 1) := by decide +kernel
theorem dX6_isSame_33 : decode cX6_isSame 33 = .ok (.if_icmp .ne 54, 3) := by decide +kernel
theorem dX6_isSame_36 : decode cX6_isSame 36 = .ok (.aload_n 1, 1) := by decide +kernel
theorem dX6_isSame_37 : decode cX6_isSame 37 = .ok (.iload_n 3, 1) := by decide +kernel
theorem dX6_isSame_38 : decode cX6_isSame 38 = .ok (.invokevirtual 129, 3) := by decide +kernel
theorem dX6_isSame_41 : decode cX6_isSame 41 = .ok (.aload_n 0, 1) := by decide +kernel
theorem dX6_isSame_42 : decode cX6_isSame 42 = .ok (.getfield 13, 3) := by decide +kernel
theorem dX6_isSame_45 : decode cX6_isSame 45 = .ok (.iload_n 3, 1) := by decide +kernel
theorem dX6_isSame_46 : decode cX6_isSame 46 = .ok (.iaload, 1) := by decide +kernel
theorem dX6_isSame_47 : decode cX6_isSame 47 = .ok (.if_icmp .ne 40, 3) := by decide +kernel
theorem dX6_isSame_50 : decode cX6_isSame 50 = .ok (.iload_n 3, 1) := by decide +kernel
theorem dX6_isSame_51 : decode cX6_isSame 51 = .ok (.aload_n 0, 1) := by decide +kernel
theorem dX6_isSame_52 : decode cX6_isSame 52 = .ok (.getfield 16, 3) := by decide +kernel
theorem dX6_isSame_55 : decode cX6_isSame 55 = .ok (.arraylength, 1) := by decide +kernel
theorem dX6_isSame_56 : decode cX6_isSame 56 = .ok (.if_icmp .ge 33, 3) := by decide +kernel
theorem dX6_isSame_59 : decode cX6_isSame 59 = .ok (.aload_n 1, 1) := by decide +kernel
theorem dX6_isSame_60 : decode cX6_isSame 60 = .ok (.iload_n 3, 1) := by decide +kernel
theorem dX6_isSame_61 : decode cX6_isSame 61 = .ok (.invokevirtual 132, 3) := by decide +kernel
theorem dX6_isSame_64 : decode cX6_isSame 64 = .ok (.aload_n 0, 1) := by decide +kernel
theorem dX6_isSame_65 : decode cX6_isSame 65 = .ok (.getfield 16, 3) := by decide +kernel
theorem dX6_isSame_68 : decode cX6_isSame 68 = .ok (.iload_n 3, 1) := by decide +kernel
theorem dX6_isSame_69 : decode cX6_isSame 69 = .ok (.iaload, 1) := by decide +kernel
theorem dX6_isSame_70 : decode cX6_isSame 70 = .ok (.if_icmp .ne 17, 3) := by decide +kernel
theorem dX6_isSame_73 : decode cX6_isSame 73 = .ok (.aload_n 1, 1) := by decide +kernel
theorem dX6_isSame_74 : decode cX6_isSame 74 = .ok (.iload_n 3, 1) := by decide +kernel
theorem dX6_isSame_75 : decode cX6_isSame 75 = .ok (.invokevirtual 135, 3) := by decide +kernel
theorem dX6_isSame_78 : decode cX6_isSame 78 = .ok (.aload_n 0, 1) := by decide +kernel
theorem dX6_isSame_79 : decode cX6_isSame 79 = .ok (.getfield 19, 3) := by decide +kernel
theorem dX6_isSame_82 : decode cX6_isSame 82 = .ok (.iload_n 3, 1) := by decide +kernel
theorem dX6_isSame_83 : decode cX6_isSame 83 = .ok (.baload, 1) := by decide +kernel
theorem dX6_isSame_84 : decode cX6_isSame 84 = .ok (.if_icmp .eq 5, 3) := by decide +kernel
theorem dX6_isSame_87 : decode cX6_isSame 87 = .ok (.iconst 0, 1) := by decide +kernel
theorem dX6_isSame_88 : decode cX6_isSame 88 = .ok (.ireturn, 1) := by decide +kernel
theorem dX6_isSame_89 : decode cX6_isSame 89 = .ok (.iinc 3 1, 3) := by decide +kernel
theorem dX6_isSame_92 : decode cX6_isSame 92 = .ok (.goto (-88), 3) := by decide +kernel
theorem dX6_isSame_95 : decode cX6_isSame 95 = .ok (.iconst 0, 1) := by decide +kernel
theorem dX6_isSame_96 : decode cX6_isSame 96 = .ok (.istore_n 3, 1) := by decide +kernel
theorem dX6_isSame_97 : decode cX6_isSame 97 = .ok (.iload_n 3, 1) := by decide +kernel
theorem dX6_isSame_98 : decode cX6_isSame 98 = .ok (.aload_n 0, 1) := by decide +kernel
theorem dX6_isSame_99 : decode cX6_isSame 99 = .ok (.getfield 24, 3) := by decide +kernel
theorem dX6_isSame_102 : decode cX6_isSame 102 = .ok (.arraylength, 1) := by decide +kernel
theorem dX6_isSame_103 : decode cX6_isSame 103 = .ok (.if_icmp .ge 36, 3) := by decide +kernel
theorem dX6_isSame_106 : decode cX6_isSame 106 = .ok (.aload_n 1, 1) := by decide +kernel
theorem dX6_isSame_107 : decode cX6_isSame 107 = .ok (.iload_n 3, 1) := by decide +kernel
theorem dX6_isSame_108 : decode cX6_isSame 108 = .ok (.invokevirtual 139, 3) := by decide +kernel
theorem dX6_isSame_111 : decode cX6_isSame 111 = .ok (.aload_n 0, 1) := by decide +kernel
theorem dX6_isSame_112 : decode cX6_isSame 112 = .ok (.getfield 24, 3) := by decide +kernel
theorem dX6_isSame_115 : decode cX6_isSame 115 = .ok (.iload_n 3, 1) := by decide +kernel
theorem dX6_isSame_116 : decode cX6_isSame 116 = .ok (.aaload, 1) := by decide +kernel
theorem dX6_isSame_117 : decode cX6_isSame 117 = .ok (.iconst 4, 1) := by decide +kernel
theorem dX6_isSame_118 : decode cX6_isSame 118 = .ok (.iaload, 1) := by decide +kernel
theorem dX6_isSame_119 : decode cX6_isSame 119 = .ok (.iconst 1, 1) := by decide +kernel
theorem dX6_isSame_120 : decode cX6_isSame 120 = .ok (.if_icmp .ne 7, 3) := by decide +kernel
theorem dX6_isSame_123 : decode cX6_isSame 123 = .ok (.iconst 1, 1) := by decide +kernel
theorem dX6_isSame_124 : decode cX6_isSame 124 = .ok (.goto 4, 3) := by decide +kernel
theorem dX6_isSame_127 : decode cX6_isSame 127 = .ok (.iconst 0, 1) := by decide +kernel
theorem dX6_isSame_128 : decode cX6_isSame 128 = .ok (.if_icmp .eq 5, 3) := by decide +kernel
theorem dX6_isSame_131 : decode cX6_isSame 131 = .ok (.iconst 0, 1) := by decide +kernel
theorem dX6_isSame_132 : decode cX6_isSame 132 = .ok (.ireturn, 1) := by decide +kernel
theorem dX6_isSame_133 : decode cX6_isSame 133 = .ok (.iinc 3 1, 3) := by decide +kernel
theorem dX6_isSame_136 : decode cX6_isSame 136 = .ok (.goto (-39), 3) := by decide +kernel
theorem dX6_isSame_139 : decode cX6_isSame 139 = .ok (.iconst 0, 1) := by decide +kernel
theorem dX6_isSame_140 : decode cX6_isSame 140 = .ok (.istore_n 3, 1) := by decide +kernel
theorem dX6_isSame_141 : decode cX6_isSame 141 = .ok (.iload_n 3, 1) := by decide +kernel
theorem dX6_isSame_142 : decode cX6_isSame 142 = .ok (.aload_n 0, 1) := by decide +kernel
theorem dX6_isSame_143 : decode cX6_isSame 143 = .ok (.getfield 30, 3) := by decide +kernel
theorem dX6_isSame_146 : decode cX6_isSame 146 = .ok (.arraylength, 1) := by decide +kernel
theorem dX6_isSame_147 : decode cX6_isSame 147 = .ok (.if_icmp .ge 177, 3) := by decide +kernel
theorem dX6_isSame_150 : decode cX6_isSame 150 = .ok (.aload_n 0, 1) := by decide +kernel
theorem dX6_isSame_151 : decode cX6_isSame 151 = .ok (.getfield 30, 3) := by decide +kernel
theorem dX6_isSame_154 : decode cX6_isSame 154 = .ok (.iload_n 3, 1) := by decide +kernel
theorem dX6_isSame_155 : decode cX6_isSame 155 = .ok (.aaload, 1) := by decide +kernel
theorem dX6_isSame_156 : decode cX6_isSame 156 = .ok (.astore 4, 2) := by decide +kernel
theorem dX6_isSame_158 : decode cX6_isSame 158 = .ok (.aload_n 1, 1) := by decide +kernel
theorem dX6_isSame_159 : decode cX6_isSame 159 = .ok (.iload_n 3, 1) := by decide +kernel
theorem dX6_isSame_160 : decode cX6_isSame 160 = .ok (.invokevirtual 142, 3) := by decide +kernel
theorem dX6_isSame_163 : decode cX6_isSame 163 = .ok (.aload 4, 2) := by decide +kernel
theorem dX6_isSame_165 : decode cX6_isSame 165 = .ok (.getfield 55, 3) := by decide +kernel
theorem dX6_isSame_168 : decode cX6_isSame 168 = .ok (.if_icmp .ne 55, 3) := by decide +kernel
theorem dX6_isSame_171 : decode cX6_isSame 171 = .ok (.aload_n 1, 1) := by decide +kernel
theorem dX6_isSame_172 : decode cX6_isSame 172 = .ok (.iload_n 3, 1) := by decide +kernel
theorem dX6_isSame_173 : decode cX6_isSame 173 = .ok (.invokevirtual 145, 3) := by decide +kernel
theorem dX6_isSame_176 : decode cX6_isSame 176 = .ok (.aload 4, 2) := by decide +kernel
theorem dX6_isSame_178 : decode cX6_isSame 178 = .ok (.getfield 58, 3) := by decide +kernel
theorem dX6_isSame_181 : decode cX6_isSame 181 = .ok (.if_icmp .ne 42, 3) := by decide +kernel
theorem dX6_isSame_184 : decode cX6_isSame 184 = .ok (.aload_n 1, 1) := by decide +kernel
theorem dX6_isSame_185 : decode cX6_isSame 185 = .ok (.iload_n 3, 1) := by decide +kernel
theorem dX6_isSame_186 : decode cX6_isSame 186 = .ok (.invokevirtual 148, 3) := by decide +kernel
theorem dX6_isSame_189 : decode cX6_isSame 189 = .ok (.aload_n 0, 1) := by decide +kernel
theorem dX6_isSame_190 : decode cX6_isSame 190 = .ok (.iload_n 3, 1) := by decide +kernel
theorem dX6_isSame_191 : decode cX6_isSame 191 = .ok (.invokevirtual 151, 3) := by decide +kernel
theorem dX6_isSame_194 : decode cX6_isSame 194 = .ok (.if_icmp .ne 29, 3) := by decide +kernel
theorem dX6_isSame_197 : decode cX6_isSame 197 = .ok (.aload_n 1, 1) := by decide +kernel
theorem dX6_isSame_198 : decode cX6_isSame 198 = .ok (.iload_n 3, 1) := by decide +kernel
theorem dX6_isSame_199 : decode cX6_isSame 199 = .ok (.invokevirtual 152, 3) := by decide +kernel
theorem dX6_isSame_202 : decode cX6_isSame 202 = .ok (.aload 4, 2) := by decide +kernel
theorem dX6_isSame_204 : decode cX6_isSame 204 = .ok (.invokevirtual 119, 3) := by decide +kernel
theorem dX6_isSame_207 : decode cX6_isSame 207 = .ok (.if_icmp .ne 16, 3) := by decide +kernel
theorem dX6_isSame_210 : decode cX6_isSame 210 = .ok (.aload_n 1, 1) := by decide +kernel
theorem dX6_isSame_211 : decode cX6_isSame 211 = .ok (.iload_n 3, 1) := by decide +kernel
theorem dX6_isSame_212 : decode cX6_isSame 212 = .ok (.invokevirtual 154, 3) := by decide +kernel
theorem dX6_isSame_215 : decode cX6_isSame 215 = .ok (.aload 4, 2) := by decide +kernel
theorem dX6_isSame_217 : decode cX6_isSame 217 = .ok (.invokevirtual 157, 3) := by decide +kernel
theorem dX6_isSame_220 : decode cX6_isSame 220 = .ok (.if_icmp .eq 5, 3) := by decide +kernel
theorem dX6_isSame_223 : decode cX6_isSame 223 = .ok (.iconst 0, 1) := by decide +kernel
theorem dX6_isSame_224 : decode cX6_isSame 224 = .ok (.ireturn, 1) := by decide +kernel
theorem dX6_isSame_225 : decode cX6_isSame 225 = .ok (.iconst 0, 1) := by decide +kernel
theorem dX6_isSame_226 : decode cX6_isSame 226 = .ok (.istore 5, 2) := by decide +kernel
theorem dX6_isSame_228 : decode cX6_isSame 228 = .ok (.iload 5, 2) := by decide +kernel
theorem dX6_isSame_230 : decode cX6_isSame 230 = .ok (.aload_n 0, 1) := by decide +kernel
theorem dX6_isSame_231 : decode cX6_isSame 231 = .ok (.getfield 7, 3) := by decide +kernel
theorem dX6_isSame_234 : decode cX6_isSame 234 = .ok (.arraylength, 1) := by decide +kernel
theorem dX6_isSame_235 : decode cX6_isSame 235 = .ok (.if_icmp .ge 83, 3) := by decide +kernel
theorem dX6_isSame_238 : decode cX6_isSame 238 = .ok (.aload_n 1, 1) := by decide +kernel
theorem dX6_isSame_239 : decode cX6_isSame 239 = .ok (.iload_n 3, 1) := by decide +kernel
theorem dX6_isSame_240 : decode cX6_isSame 240 = .ok (.iload 5, 2) := by decide +kernel
theorem dX6_isSame_242 : decode cX6_isSame 242 = .ok (.invokevirtual 160, 3) := by decide +kernel
theorem dX6_isSame_245 : decode cX6_isSame 245 = .ok (.aload 4, 2) := by decide +kernel
theorem dX6_isSame_247 : decode cX6_isSame 247 = .ok (.getfield 65, 3) := by decide +kernel
theorem dX6_isSame_250 : decode cX6_isSame 250 = .ok (.iload 5, 2) := by decide +kernel
theorem dX6_isSame_252 : decode cX6_isSame 252 = .ok (.iaload, 1) := by decide +kernel
theorem dX6_isSame_253 : decode cX6_isSame 253 = .ok (.if_icmp .ne 57, 3) := by decide +kernel
theorem dX6_isSame_256 : decode cX6_isSame 256 = .ok (.aload_n 1, 1) := by decide +kernel
theorem dX6_isSame_257 : decode cX6_isSame 257 = .ok (.iload_n 3, 1) := by decide +kernel
theorem dX6_isSame_258 : decode cX6_isSame 258 = .ok (.iload 5, 2) := by decide +kernel
theorem dX6_isSame_260 : decode cX6_isSame 260 = .ok (.invokevirtual 163, 3) := by decide +kernel
theorem dX6_isSame_263 : decode cX6_isSame 263 = .ok (.aload 4, 2) := by decide +kernel
theorem dX6_isSame_265 : decode cX6_isSame 265 = .ok (.getfield 68, 3) := by decide +kernel
theorem dX6_isSame_268 : decode cX6_isSame 268 = .ok (.iload 5, 2) := by decide +kernel
theorem dX6_isSame_270 : decode cX6_isSame 270 = .ok (.iaload, 1) := by decide +kernel
theorem dX6_isSame_271 : decode cX6_isSame 271 = .ok (.if_icmp .ne 39, 3) := by decide +kernel
theorem dX6_isSame_274 : decode cX6_isSame 274 = .ok (.aload_n 1, 1) := by decide +kernel
theorem dX6_isSame_275 : decode cX6_isSame 275 = .ok (.iload_n 3, 1) := by decide +kernel
theorem dX6_isSame_276 : decode cX6_isSame 276 = .ok (.iload 5, 2) := by decide +kernel
theorem dX6_isSame_278 : decode cX6_isSame 278 = .ok (.invokevirtual 166, 3) := by decide +kernel
theorem dX6_isSame_281 : decode cX6_isSame 281 = .ok (.aload 4, 2) := by decide +kernel
theorem dX6_isSame_283 : decode cX6_isSame 283 = .ok (.getfield 77, 3) := by decide +kernel
theorem dX6_isSame_286 : decode cX6_isSame 286 = .ok (.iload 5, 2) := by decide +kernel
theorem dX6_isSame_288 : decode cX6_isSame 288 = .ok (.iaload, 1) := by decide +kernel
theorem dX6_isSame_289 : decode cX6_isSame 289 = .ok (.if_icmp .ne 21, 3) := by decide +kernel
theorem dX6_isSame_292 : decode cX6_isSame 292 = .ok (.aload_n 1, 1) := by decide +kernel
theorem dX6_isSame_293 : decode cX6_isSame 293 = .ok (.iload_n 3, 1) := by decide +kernel
theorem dX6_isSame_294 : decode cX6_isSame 294 = .ok (.iload 5, 2) := by decide +kernel
theorem dX6_isSame_296 : decode cX6_isSame 296 = .ok (.invokevirtual 169, 3) := by decide +kernel
theorem dX6_isSame_299 : decode cX6_isSame 299 = .ok (.aload 4, 2) := by decide +kernel
theorem dX6_isSame_301 : decode cX6_isSame 301 = .ok (.getfield 71, 3) := by decide +kernel
theorem dX6_isSame_304 : decode cX6_isSame 304 = .ok (.iload 5, 2) := by decide +kernel
theorem dX6_isSame_306 : decode cX6_isSame 306 = .ok (.iaload, 1) := by decide +kernel
theorem dX6_isSame_307 : decode cX6_isSame 307 = .ok (.if_icmp .eq 5, 3) := by decide +kernel
theorem dX6_isSame_310 : decode cX6_isSame 310 = .ok (.iconst 0, 1) := by decide +kernel
theorem dX6_isSame_311 : decode cX6_isSame 311 = .ok (.ireturn, 1) := by decide +kernel
theorem dX6_isSame_312 : decode cX6_isSame 312 = .ok (.iinc 5 1, 3) := by decide +kernel
theorem dX6_isSame_315 : decode cX6_isSame 315 = .ok (.goto (-87), 3) := by decide +kernel
theorem dX6_isSame_318 : decode cX6_isSame 318 = .ok (.iinc 3 1, 3) := by decide +kernel
theorem dX6_isSame_321 : decode cX6_isSame 321 = .ok (.goto (-180), 3) := by decide +kernel
theorem dX6_isSame_324 : decode cX6_isSame 324 = .ok (.aload_n 1, 1) := by decide +kernel
theorem dX6_isSame_325 : decode cX6_isSame 325 = .ok (.invokevirtual 172, 3) := by decide +kernel
theorem dX6_isSame_328 : decode cX6_isSame 328 = .ok (.aload_n 0, 1) := by decide +kernel
theorem dX6_isSame_329 : decode cX6_isSame 329 = .ok (.getfield 7, 3) := by decide +kernel
theorem dX6_isSame_332 : decode cX6_isSame 332 = .ok (.arraylength, 1) := by decide +kernel
theorem dX6_isSame_333 : decode cX6_isSame 333 = .ok (.if_icmp .ne 59, 3) := by decide +kernel
theorem dX6_isSame_336 : decode cX6_isSame 336 = .ok (.aload_n 1, 1) := by decide +kernel
theorem dX6_isSame_337 : decode cX6_isSame 337 = .ok (.invokevirtual 175, 3) := by decide +kernel
theorem dX6_isSame_340 : decode cX6_isSame 340 = .ok (.aload_n 0, 1) := by decide +kernel
theorem dX6_isSame_341 : decode cX6_isSame 341 = .ok (.getfield 35, 3) := by decide +kernel
theorem dX6_isSame_344 : decode cX6_isSame 344 = .ok (.if_icmp .ne 48, 3) := by decide +kernel
theorem dX6_isSame_347 : decode cX6_isSame 347 = .ok (.aload_n 1, 1) := by decide +kernel
theorem dX6_isSame_348 : decode cX6_isSame 348 = .ok (.invokevirtual 178, 3) := by decide +kernel
theorem dX6_isSame_351 : decode cX6_isSame 351 = .ok (.aload_n 0, 1) := by decide +kernel
theorem dX6_isSame_352 : decode cX6_isSame 352 = .ok (.getfield 24, 3) := by decide +kernel
theorem dX6_isSame_355 : decode cX6_isSame 355 = .ok (.arraylength, 1) := by decide +kernel
theorem dX6_isSame_356 : decode cX6_isSame 356 = .ok (.if_icmp .ne 36, 3) := by decide +kernel
theorem dX6_isSame_359 : decode cX6_isSame 359 = .ok (.aload_n 1, 1) := by decide +kernel
theorem dX6_isSame_360 : decode cX6_isSame 360 = .ok (.invokevirtual 180, 3) := by decide +kernel
theorem dX6_isSame_363 : decode cX6_isSame 363 = .ok (.aload_n 0, 1) := by decide +kernel
theorem dX6_isSame_364 : decode cX6_isSame 364 = .ok (.getfield 30, 3) := by decide +kernel
theorem dX6_isSame_367 : decode cX6_isSame 367 = .ok (.arraylength, 1) := by decide +kernel
theorem dX6_isSame_368 : decode cX6_isSame 368 = .ok (.if_icmp .ne 24, 3) := by decide +kernel
theorem dX6_isSame_371 : decode cX6_isSame 371 = .ok (.aload_n 1, 1) := by decide +kernel
theorem dX6_isSame_372 : decode cX6_isSame 372 = .ok (.invokevirtual 182, 3) := by decide +kernel
theorem dX6_isSame_375 : decode cX6_isSame 375 = .ok (.iload_n 2, 1) := by decide +kernel
theorem dX6_isSame_376 : decode cX6_isSame 376 = .ok (.i2d, 1) := by decide +kernel
theorem dX6_isSame_377 : decode cX6_isSame 377 = .ok (.aload_n 0, 1) := by decide +kernel
theorem dX6_isSame_378 : decode cX6_isSame 378 = .ok (.getfield 7, 3) := by decide +kernel
theorem dX6_isSame_381 : decode cX6_isSame 381 = .ok (.arraylength, 1) := by decide +kernel
theorem dX6_isSame_382 : decode cX6_isSame 382 = .ok (.i2d, 1) := by decide +kernel
theorem dX6_isSame_383 : decode cX6_isSame 383 = .ok (.ddiv, 1) := by decide +kernel
theorem dX6_isSame_384 : decode cX6_isSame 384 = .ok (.dcmp .l, 1) := by decide +kernel
theorem dX6_isSame_385 : decode cX6_isSame 385 = .ok (.ifCond .ne 7, 3) := by decide +kernel
theorem dX6_isSame_388 : decode cX6_isSame 388 = .ok (.iconst 1, 1) := by decide +kernel
theorem dX6_isSame_389 : decode cX6_isSame 389 = .ok (.goto 4, 3) := by decide +kernel
theorem dX6_isSame_392 : decode cX6_isSame 392 = .ok (.iconst 0, 1) := by decide +kernel
theorem dX6_isSame_393 : decode cX6_isSame 393 = .ok (.ireturn, 1) := by decide +kernel
theorem dJ9_max_7cf53_0 : decode cJ9_max_7cf53 0 = .ok (.iload_n 0, 1) := by decide +kernel
theorem dJ9_max_7cf53_1 : decode cJ9_max_7cf53 1 = .ok (.iload_n 1, 1) := by decide +kernel
theorem dJ9_max_7cf53_2 : decode cJ9_max_7cf53 2 = .ok (.if_icmp .lt 7, 3) := by decide +kernel
theorem dJ9_max_7cf53_5 : decode cJ9_max_7cf53 5 = .ok (.iload_n 0, 1) := by decide +kernel
theorem dJ9_max_7cf53_6 : decode cJ9_max_7cf53 6 = .ok (.goto 4, 3) := by decide +kernel
theorem dJ9_max_7cf53_9 : decode cJ9_max_7cf53 9 = .ok (.iload_n 1, 1) := by decide +kernel
theorem dJ9_max_7cf53_10 : decode cJ9_max_7cf53 10 = .ok (.ireturn, 1) := by decide +kernel
theorem dJ9_min_7cf53_0 : decode cJ9_min_7cf53 0 = .ok (.iload_n 0, 1) := by decide +kernel
theorem dJ9_min_7cf53_1 : decode cJ9_min_7cf53 1 = .ok (.iload_n 1, 1) := by decide +kernel
theorem dJ9_min_7cf53_2 : decode cJ9_min_7cf53 2 = .ok (.if_icmp .gt 7, 3) := by decide +kernel
theorem dJ9_min_7cf53_5 : decode cJ9_min_7cf53 5 = .ok (.iload_n 0, 1) := by decide +kernel
theorem dJ9_min_7cf53_6 : decode cJ9_min_7cf53 6 = .ok (.goto 4, 3) := by decide +kernel
theorem dJ9_min_7cf53_9 : decode cJ9_min_7cf53 9 = .ok (.iload_n 1, 1) := by decide +kernel
theorem dJ9_min_7cf53_10 : decode cJ9_min_7cf53 10 = .ok (.ireturn, 1) := by decide +kernel
theorem dL_below_0 : decode cL_below 0 = .ok (.iload_n 0, 1) := by decide +kernel
theorem dL_below_1 : decode cL_below 1 = .ok (.ldc 7, 2) := by decide +kernel
theorem dL_below_3 : decode cL_below 3 = .ok (.iand, 1) := by decide +kernel
theorem dL_below_4 : decode cL_below 4 = .ok (.iload_n 1, 1) := by decide +kernel
theorem dL_below_5 : decode cL_below 5 = .ok (.irem, 1) := by decide +kernel
theorem dL_below_6 : decode cL_below 6 = .ok (.ireturn, 1) := by decide +kernel
theorem dL_cell_0 : decode cL_cell 0 = .ok (.iload_n 1, 1) := by decide +kernel
theorem dL_cell_1 : decode cL_cell 1 = .ok (.aload_n 0, 1) := by decide +kernel
theorem dL_cell_2 : decode cL_cell 2 = .ok (.arraylength, 1) := by decide +kernel
theorem dL_cell_3 : decode cL_cell 3 = .ok (.if_icmp .ge 9, 3) := by decide +kernel
theorem dL_cell_6 : decode cL_cell 6 = .ok (.aload_n 0, 1) := by decide +kernel
theorem dL_cell_7 : decode cL_cell 7 = .ok (.iload_n 1, 1) := by decide +kernel
theorem dL_cell_8 : decode cL_cell 8 = .ok (.iaload, 1) := by decide +kernel
theorem dL_cell_9 : decode cL_cell 9 = .ok (.goto 9, 3) := by decide +kernel
theorem dL_cell_12 : decode cL_cell 12 = .ok (.ldc 8, 2) := by decide +kernel
theorem dL_cell_14 : decode cL_cell 14 = .ok (.iload_n 1, 1) := by decide +kernel
theorem dL_cell_15 : decode cL_cell 15 = .ok (.iconst 3, 1) := by decide +kernel
theorem dL_cell_16 : decode cL_cell 16 = .ok (.iadd, 1) := by decide +kernel
theorem dL_cell_17 : decode cL_cell 17 = .ok (.imul, 1) := by decide +kernel
theorem dL_cell_18 : decode cL_cell 18 = .ok (.ireturn, 1) := by decide +kernel
theorem dL_act_0 : decode cL_act 0 = .ok (.aload_n 1, 1) := by decide +kernel
theorem dL_act_1 : decode cL_act 1 = .ok (.getfield 9, 3) := by decide +kernel
theorem dL_act_4 : decode cL_act 4 = .ok (.arraylength, 1) := by decide +kernel
theorem dL_act_5 : decode cL_act 5 = .ok (.istore_n 3, 1) := by decide +kernel
theorem dL_act_6 : decode cL_act 6 = .ok (.iload_n 2, 1) := by decide +kernel
theorem dL_act_7 : decode cL_act 7 = .ok (.iconst 4, 1) := by decide +kernel
theorem dL_act_8 : decode cL_act 8 = .ok (.ishr, 1) := by decide +kernel
theorem dL_act_9 : decode cL_act 9 = .ok (.iload_n 3, 1) := by decide +kernel
theorem dL_act_10 : decode cL_act 10 = .ok (.invokestatic 15, 3) := by decide +kernel
theorem dL_act_13 : decode cL_act 13 = .ok (.istore 4, 2) := by decide +kernel
theorem dL_act_15 : decode cL_act 15 = .ok (.aload_n 1, 1) := by decide +kernel
theorem dL_act_16 : decode cL_act 16 = .ok (.getfield 21, 3) := by decide +kernel
theorem dL_act_19 : decode cL_act 19 = .ok (.arraylength, 1) := by decide +kernel
theorem dL_act_20 : decode cL_act 20 = .ok (.istore 5, 2) := by decide +kernel
theorem dL_act_22 : decode cL_act 22 = .ok (.iconst 1, 1) := by decide +kernel
theorem dL_act_23 : decode cL_act 23 = .ok (.istore 6, 2) := by decide +kernel
theorem dL_act_25 : decode cL_act 25 = .ok (.iload_n 2, 1) := by decide +kernel
theorem dL_act_26 : decode cL_act 26 = .ok (.bipush 20, 2) := by decide +kernel
theorem dL_act_28 : decode cL_act 28 = .ok (.invokestatic 15, 3) := by decide +kernel
theorem dL_act_31 : decode cL_act 31 = .ok (.tableswitch 801 0 14 #[73, 124, 124, 187, 250, 326, 326, 382, 382, 532, 608, 608, 608, 687, 687], 73) := by decide +kernel
theorem dL_act_104 : decode cL_act 104 = .ok (.iload_n 2, 1) := by decide +kernel
theorem dL_act_105 : decode cL_act 105 = .ok (.iconst 5, 1) := by decide +kernel
theorem dL_act_106 : decode cL_act 106 = .ok (.ishr, 1) := by decide +kernel
theorem dL_act_107 : decode cL_act 107 = .ok (.bipush 6, 2) := by decide +kernel
theorem dL_act_109 : decode cL_act 109 = .ok (.invokestatic 15, 3) := by decide +kernel
theorem dL_act_112 : decode cL_act 112 = .ok (.ifCond .le 5, 3) := by decide +kernel
theorem dL_act_115 : decode cL_act 115 = .ok (.iconst 1, 1) := by decide +kernel
theorem dL_act_116 : decode cL_act 116 = .ok (.ireturn, 1) := by decide +kernel
theorem dL_act_117 : decode cL_act 117 = .ok (.iconst 2, 1) := by decide +kernel
theorem dL_act_118 : decode cL_act 118 = .ok (.iload_n 2, 1) := by decide +kernel
theorem dL_act_119 : decode cL_act 119 = .ok (.bipush 7, 2) := by decide +kernel
theorem dL_act_121 : decode cL_act 121 = .ok (.ishr, 1) := by decide +kernel
theorem dL_act_122 : decode cL_act 122 = .ok (.bipush 11, 2) := by decide +kernel
theorem dL_act_124 : decode cL_act 124 = .ok (.invokestatic 15, 3) := by decide +kernel
theorem dL_act_127 : decode cL_act 127 = .ok (.iadd, 1) := by decide +kernel
theorem dL_act_128 : decode cL_act 128 = .ok (.istore 7, 2) := by decide +kernel
theorem dL_act_130 : decode cL_act 130 = .ok (.aload_n 1, 1) := by decide +kernel
theorem dL_act_131 : decode cL_act 131 = .ok (.iload 7, 2) := by decide +kernel
theorem dL_act_133 : decode cL_act 133 = .ok (.invokevirtual 25, 3) := by decide +kernel
theorem dL_act_136 : decode cL_act 136 = .ok (.aload_n 0, 1) := by decide +kernel
theorem dL_act_137 : decode cL_act 137 = .ok (.iload 7, 2) := by decide +kernel
theorem dL_act_139 : decode cL_act 139 = .ok (.invokevirtual 29, 3) := by decide +kernel
theorem dL_act_142 : decode cL_act 142 = .ok (.iload 7, 2) := by decide +kernel
theorem dL_act_144 : decode cL_act 144 = .ok (.iconst 1, 1) := by decide +kernel
theorem dL_act_145 : decode cL_act 145 = .ok (.isub, 1) := by decide +kernel
theorem dL_act_146 : decode cL_act 146 = .ok (.if_icmp .ne 7, 3) := by decide +kernel
theorem dL_act_149 : decode cL_act 149 = .ok (.iconst 1, 1) := by decide +kernel
theorem dL_act_150 : decode cL_act 150 = .ok (.goto 4, 3) := by decide +kernel
theorem dL_act_153 : decode cL_act 153 = .ok (.iconst 0, 1) := by decide +kernel
theorem dL_act_154 : decode cL_act 154 = .ok (.ireturn, 1) := by decide +kernel
theorem dL_act_155 : decode cL_act 155 = .ok (.aload_n 1, 1) := by decide +kernel
theorem dL_act_156 : decode cL_act 156 = .ok (.getfield 34, 3) := by decide +kernel
theorem dL_act_159 : decode cL_act 159 = .ok (.iload 4, 2) := by decide +kernel
theorem dL_act_161 : decode cL_act 161 = .ok (.iaload, 1) := by decide +kernel
theorem dL_act_162 : decode cL_act 162 = .ok (.istore 7, 2) := by decide +kernel
theorem dL_act_164 : decode cL_act 164 = .ok (.aload_n 1, 1) := by decide +kernel
theorem dL_act_165 : decode cL_act 165 = .ok (.aload_n 1, 1) := by decide +kernel
theorem dL_act_166 : decode cL_act 166 = .ok (.getfield 34, 3) := by decide +kernel
theorem dL_act_169 : decode cL_act 169 = .ok (.invokevirtual 37, 3) := by decide +kernel
theorem dL_act_172 : decode cL_act 172 = .ok (.checkcast 38, 3) := by decide +kernel
theorem dL_act_175 : decode cL_act 175 = .ok (.putfield 34, 3) := by decide +kernel
theorem dL_act_178 : decode cL_act 178 = .ok (.aload_n 1, 1) := by decide +kernel
theorem dL_act_179 : decode cL_act 179 = .ok (.getfield 34, 3) := by decide +kernel
theorem dL_act_182 : decode cL_act 182 = .ok (.iload 4, 2) := by decide +kernel
theorem dL_act_184 : decode cL_act 184 = .ok (.iload_n 2, 1) := by decide +kernel
theorem dL_act_185 : decode cL_act 185 = .ok (.bipush 6, 2) := by decide +kernel
theorem dL_act_187 : decode cL_act 187 = .ok (.ishr, 1) := by decide +kernel
theorem dL_act_188 : decode cL_act 188 = .ok (.bipush 10, 2) := by decide +kernel
theorem dL_act_190 : decode cL_act 190 = .ok (.invokestatic 15, 3) := by decide +kernel
theorem dL_act_193 : decode cL_act 193 = .ok (.iastore, 1) := by decide +kernel
theorem dL_act_194 : decode cL_act 194 = .ok (.aload_n 0, 1) := by decide +kernel
theorem dL_act_195 : decode cL_act 195 = .ok (.iload 4, 2) := by decide +kernel
theorem dL_act_197 : decode cL_act 197 = .ok (.aload_n 1, 1) := by decide +kernel
theorem dL_act_198 : decode cL_act 198 = .ok (.getfield 34, 3) := by decide +kernel
theorem dL_act_201 : decode cL_act 201 = .ok (.iload 4, 2) := by decide +kernel
theorem dL_act_203 : decode cL_act 203 = .ok (.iaload, 1) := by decide +kernel
theorem dL_act_204 : decode cL_act 204 = .ok (.invokevirtual 42, 3) := by decide +kernel
theorem dL_act_207 : decode cL_act 207 = .ok (.iload 7, 2) := by decide +kernel
theorem dL_act_209 : decode cL_act 209 = .ok (.if_icmp .ne 7, 3) := by decide +kernel
theorem dL_act_212 : decode cL_act 212 = .ok (.iconst 1, 1) := by decide +kernel
theorem dL_act_213 : decode cL_act 213 = .ok (.goto 4, 3) := by decide +kernel
theorem dL_act_216 : decode cL_act 216 = .ok (.iconst 0, 1) := by decide +kernel
theorem dL_act_217 : decode cL_act 217 = .ok (.ireturn, 1) := by decide +kernel
theorem dL_act_218 : decode cL_act 218 = .ok (.aload_n 1, 1) := by decide +kernel
theorem dL_act_219 : decode cL_act 219 = .ok (.getfield 9, 3) := by decide +kernel
theorem dL_act_222 : decode cL_act 222 = .ok (.iload 4, 2) := by decide +kernel
theorem dL_act_224 : decode cL_act 224 = .ok (.iaload, 1) := by decide +kernel
theorem dL_act_225 : decode cL_act 225 = .ok (.istore 7, 2) := by decide +kernel
theorem dL_act_227 : decode cL_act 227 = .ok (.aload_n 1, 1) := by decide +kernel
theorem dL_act_228 : decode cL_act 228 = .ok (.aload_n 1, 1) := by decide +kernel
theorem dL_act_229 : decode cL_act 229 = .ok (.getfield 9, 3) := by decide +kernel
theorem dL_act_232 : decode cL_act 232 = .ok (.invokevirtual 37, 3) := by decide +kernel
theorem dL_act_235 : decode cL_act 235 = .ok (.checkcast 38, 3) := by decide +kernel
theorem dL_act_238 : decode cL_act 238 = .ok (.putfield 9, 3) := by decide +kernel
theorem dL_act_241 : decode cL_act 241 = .ok (.aload_n 1, 1) := by decide +kernel
theorem dL_act_242 : decode cL_act 242 = .ok (.getfield 9, 3) := by decide +kernel
theorem dL_act_245 : decode cL_act 245 = .ok (.iload 4, 2) := by decide +kernel
theorem dL_act_247 : decode cL_act 247 = .ok (.iload_n 2, 1) := by decide +kernel
theorem dL_act_248 : decode cL_act 248 = .ok (.bipush 6, 2) := by decide +kernel
theorem dL_act_250 : decode cL_act 250 = .ok (.ishr, 1) := by decide +kernel
theorem dL_act_251 : decode cL_act 251 = .ok (.bipush 100, 2) := by decide +kernel
theorem dL_act_253 : decode cL_act 253 = .ok (.invokestatic 15, 3) := by decide +kernel
theorem dL_act_256 : decode cL_act 256 = .ok (.iastore, 1) := by decide +kernel
theorem dL_act_257 : decode cL_act 257 = .ok (.aload_n 0, 1) := by decide +kernel
theorem dL_act_258 : decode cL_act 258 = .ok (.iload 4, 2) := by decide +kernel
theorem dL_act_260 : decode cL_act 260 = .ok (.aload_n 1, 1) := by decide +kernel
theorem dL_act_261 : decode cL_act 261 = .ok (.getfield 9, 3) := by decide +kernel
theorem dL_act_264 : decode cL_act 264 = .ok (.iload 4, 2) := by decide +kernel
theorem dL_act_266 : decode cL_act 266 = .ok (.iaload, 1) := by decide +kernel
theorem dL_act_267 : decode cL_act 267 = .ok (.invokevirtual 45, 3) := by decide +kernel
theorem dL_act_270 : decode cL_act 270 = .ok (.iload 7, 2) := by decide +kernel
theorem dL_act_272 : decode cL_act 272 = .ok (.if_icmp .ne 7, 3) := by decide +kernel
theorem dL_act_275 : decode cL_act 275 = .ok (.iconst 1, 1) := by decide +kernel
theorem dL_act_276 : decode cL_act 276 = .ok (.goto 4, 3) := by decide +kernel
theorem dL_act_279 : decode cL_act 279 = .ok (.iconst 0, 1) := by decide +kernel
theorem dL_act_280 : decode cL_act 280 = .ok (.ireturn, 1) := by decide +kernel
theorem dL_act_281 : decode cL_act 281 = .ok (.iload_n 2, 1) := by decide +kernel
theorem dL_act_282 : decode cL_act 282 = .ok (.bipush 6, 2) := by decide +kernel
theorem dL_act_284 : decode cL_act 284 = .ok (.ishr, 1) := by decide +kernel
theorem dL_act_285 : decode cL_act 285 = .ok (.iload_n 3, 1) := by decide +kernel
theorem dL_act_286 : decode cL_act 286 = .ok (.iconst 1, 1) := by decide +kernel
theorem dL_act_287 : decode cL_act 287 = .ok (.isub, 1) := by decide +kernel
theorem dL_act_288 : decode cL_act 288 = .ok (.invokestatic 15, 3) := by decide +kernel
theorem dL_act_291 : decode cL_act 291 = .ok (.istore 7, 2) := by decide +kernel
theorem dL_act_293 : decode cL_act 293 = .ok (.aload_n 1, 1) := by decide +kernel
theorem dL_act_294 : decode cL_act 294 = .ok (.getfield 48, 3) := by decide +kernel
theorem dL_act_297 : decode cL_act 297 = .ok (.iload 7, 2) := by decide +kernel
theorem dL_act_299 : decode cL_act 299 = .ok (.iaload, 1) := by decide +kernel
theorem dL_act_300 : decode cL_act 300 = .ok (.istore 8, 2) := by decide +kernel
theorem dL_act_302 : decode cL_act 302 = .ok (.aload_n 1, 1) := by decide +kernel
theorem dL_act_303 : decode cL_act 303 = .ok (.aload_n 1, 1) := by decide +kernel
theorem dL_act_304 : decode cL_act 304 = .ok (.getfield 48, 3) := by decide +kernel
theorem dL_act_307 : decode cL_act 307 = .ok (.invokevirtual 37, 3) := by decide +kernel
theorem dL_act_310 : decode cL_act 310 = .ok (.checkcast 38, 3) := by decide +kernel
theorem dL_act_313 : decode cL_act 313 = .ok (.putfield 48, 3) := by decide +kernel
theorem dL_act_316 : decode cL_act 316 = .ok (.aload_n 1, 1) := by decide +kernel
theorem dL_act_317 : decode cL_act 317 = .ok (.getfield 48, 3) := by decide +kernel
theorem dL_act_320 : decode cL_act 320 = .ok (.iload 7, 2) := by decide +kernel
theorem dL_act_322 : decode cL_act 322 = .ok (.iconst 1, 1) := by decide +kernel
theorem dL_act_323 : decode cL_act 323 = .ok (.iload_n 2, 1) := by decide +kernel
theorem dL_act_324 : decode cL_act 324 = .ok (.iconst 4, 1) := by decide +kernel
theorem dL_act_325 : decode cL_act 325 = .ok (.ishr, 1) := by decide +kernel
theorem dL_act_326 : decode cL_act 326 = .ok (.bipush 9, 2) := by decide +kernel
theorem dL_act_328 : decode cL_act 328 = .ok (.invokestatic 15, 3) := by decide +kernel
theorem dL_act_331 : decode cL_act 331 = .ok (.iadd, 1) := by decide +kernel
theorem dL_act_332 : decode cL_act 332 = .ok (.iastore, 1) := by decide +kernel
theorem dL_act_333 : decode cL_act 333 = .ok (.aload_n 0, 1) := by decide +kernel
theorem dL_act_334 : decode cL_act 334 = .ok (.iload 7, 2) := by decide +kernel
theorem dL_act_336 : decode cL_act 336 = .ok (.aload_n 1, 1) := by decide +kernel
theorem dL_act_337 : decode cL_act 337 = .ok (.getfield 48, 3) := by decide +kernel
theorem dL_act_340 : decode cL_act 340 = .ok (.iload 7, 2) := by decide +kernel
theorem dL_act_342 : decode cL_act 342 = .ok (.iaload, 1) := by decide +kernel
theorem dL_act_343 : decode cL_act 343 = .ok (.invokevirtual 51, 3) := by decide +kernel
theorem dL_act_346 : decode cL_act 346 = .ok (.iload 8, 2) := by decide +kernel
theorem dL_act_348 : decode cL_act 348 = .ok (.if_icmp .ne 7, 3) := by decide +kernel
theorem dL_act_351 : decode cL_act 351 = .ok (.iconst 1, 1) := by decide +kernel
theorem dL_act_352 : decode cL_act 352 = .ok (.goto 4, 3) := by decide +kernel
theorem dL_act_355 : decode cL_act 355 = .ok (.iconst 0, 1) := by decide +kernel
theorem dL_act_356 : decode cL_act 356 = .ok (.ireturn, 1) := by decide +kernel
theorem dL_act_357 : decode cL_act 357 = .ok (.iload_n 2, 1) := by decide +kernel
theorem dL_act_358 : decode cL_act 358 = .ok (.bipush 6, 2) := by decide +kernel
theorem dL_act_360 : decode cL_act 360 = .ok (.ishr, 1) := by decide +kernel
theorem dL_act_361 : decode cL_act 361 = .ok (.iload_n 3, 1) := by decide +kernel
theorem dL_act_362 : decode cL_act 362 = .ok (.iconst 1, 1) := by decide +kernel
theorem dL_act_363 : decode cL_act 363 = .ok (.isub, 1) := by decide +kernel
theorem dL_act_364 : decode cL_act 364 = .ok (.invokestatic 15, 3) := by decide +kernel
theorem dL_act_367 : decode cL_act 367 = .ok (.istore 7, 2) := by decide +kernel
theorem dL_act_369 : decode cL_act 369 = .ok (.aload_n 1, 1) := by decide +kernel
theorem dL_act_370 : decode cL_act 370 = .ok (.getfield 54, 3) := by decide +kernel
theorem dL_act_373 : decode cL_act 373 = .ok (.iload 7, 2) := by decide +kernel
theorem dL_act_375 : decode cL_act 375 = .ok (.aload_n 1, 1) := by decide +kernel
theorem dL_act_376 : decode cL_act 376 = .ok (.getfield 54, 3) := by decide +kernel
theorem dL_act_379 : decode cL_act 379 = .ok (.iload 7, 2) := by decide +kernel
theorem dL_act_381 : decode cL_act 381 = .ok (.baload, 1) := by decide +kernel
theorem dL_act_382 : decode cL_act 382 = .ok (.ifCond .ne 7, 3) := by decide +kernel
theorem dL_act_385 : decode cL_act 385 = .ok (.iconst 1, 1) := by decide +kernel
theorem dL_act_386 : decode cL_act 386 = .ok (.goto 4, 3) := by decide +kernel
theorem dL_act_389 : decode cL_act 389 = .ok (.iconst 0, 1) := by decide +kernel
theorem dL_act_390 : decode cL_act 390 = .ok (.bastore, 1) := by decide +kernel
theorem dL_act_391 : decode cL_act 391 = .ok (.aload_n 0, 1) := by decide +kernel
theorem dL_act_392 : decode cL_act 392 = .ok (.iload 7, 2) := by decide +kernel
theorem dL_act_394 : decode cL_act 394 = .ok (.invokevirtual 58, 3) := by decide +kernel
theorem dL_act_397 : decode cL_act 397 = .ok (.aload_n 1, 1) := by decide +kernel
theorem dL_act_398 : decode cL_act 398 = .ok (.getfield 54, 3) := by decide +kernel
theorem dL_act_401 : decode cL_act 401 = .ok (.iload 7, 2) := by decide +kernel
theorem dL_act_403 : decode cL_act 403 = .ok (.baload, 1) := by decide +kernel
theorem dL_act_404 : decode cL_act 404 = .ok (.if_icmp .ne 7, 3) := by decide +kernel
theorem dL_act_407 : decode cL_act 407 = .ok (.iconst 1, 1) := by decide +kernel
theorem dL_act_408 : decode cL_act 408 = .ok (.goto 4, 3) := by decide +kernel
theorem dL_act_411 : decode cL_act 411 = .ok (.iconst 0, 1) := by decide +kernel
theorem dL_act_412 : decode cL_act 412 = .ok (.ireturn, 1) := by decide +kernel
theorem dL_act_413 : decode cL_act 413 = .ok (.iload_n 2, 1) := by decide +kernel
theorem dL_act_414 : decode cL_act 414 = .ok (.iconst 4, 1) := by decide +kernel
theorem dL_act_415 : decode cL_act 415 = .ok (.ishr, 1) := by decide +kernel
theorem dL_act_416 : decode cL_act 416 = .ok (.iload_n 3, 1) := by decide +kernel
theorem dL_act_417 : decode cL_act 417 = .ok (.iconst 1, 1) := by decide +kernel
theorem dL_act_418 : decode cL_act 418 = .ok (.isub, 1) := by decide +kernel
theorem dL_act_419 : decode cL_act 419 = .ok (.invokestatic 15, 3) := by decide +kernel
theorem dL_act_422 : decode cL_act 422 = .ok (.istore 7, 2) := by decide +kernel
theorem dL_act_424 : decode cL_act 424 = .ok (.iload 7, 2) := by decide +kernel
theorem dL_act_426 : decode cL_act 426 = .ok (.iconst 1, 1) := by decide +kernel
theorem dL_act_427 : decode cL_act 427 = .ok (.iadd, 1) := by decide +kernel
theorem dL_act_428 : decode cL_act 428 = .ok (.iload_n 2, 1) := by decide +kernel
theorem dL_act_429 : decode cL_act 429 = .ok (.bipush 6, 2) := by decide +kernel
theorem dL_act_431 : decode cL_act 431 = .ok (.ishr, 1) := by decide +kernel
theorem dL_act_432 : decode cL_act 432 = .ok (.iload_n 3, 1) := by decide +kernel
theorem dL_act_433 : decode cL_act 433 = .ok (.iconst 1, 1) := by decide +kernel
theorem dL_act_434 : decode cL_act 434 = .ok (.isub, 1) := by decide +kernel
theorem dL_act_435 : decode cL_act 435 = .ok (.iload 7, 2) := by decide +kernel
theorem dL_act_437 : decode cL_act 437 = .ok (.isub, 1) := by decide +kernel
theorem dL_act_438 : decode cL_act 438 = .ok (.invokestatic 15, 3) := by decide +kernel
theorem dL_act_441 : decode cL_act 441 = .ok (.iadd, 1) := by decide +kernel
theorem dL_act_442 : decode cL_act 442 = .ok (.istore 8, 2) := by decide +kernel
theorem dL_act_444 : decode cL_act 444 = .ok (.iconst 5, 1) := by decide +kernel
theorem dL_act_445 : decode cL_act 445 = .ok (.newarray .int, 2) := by decide +kernel
theorem dL_act_447 : decode cL_act 447 = .ok (.dup, 1) := by decide +kernel
theorem dL_act_448 : decode cL_act 448 = .ok (.iconst 0, 1) := by decide +kernel
theorem dL_act_449 : decode cL_act 449 = .ok (.iload 7, 2) := by decide +kernel
theorem dL_act_451 : decode cL_act 451 = .ok (.iastore, 1) := by decide +kernel
theorem dL_act_452 : decode cL_act 452 = .ok (.dup, 1) := by decide +kernel
theorem dL_act_453 : decode cL_act 453 = .ok (.iconst 1, 1) := by decide +kernel
theorem dL_act_454 : decode cL_act 454 = .ok (.iload 8, 2) := by decide +kernel
theorem dL_act_456 : decode cL_act 456 = .ok (.iastore, 1) := by decide +kernel
theorem dL_act_457 : decode cL_act 457 = .ok (.dup, 1) := by decide +kernel
theorem dL_act_458 : decode cL_act 458 = .ok (.iconst 2, 1) := by decide +kernel
theorem dL_act_459 : decode cL_act 459 = .ok (.iconst 1, 1) := by decide +kernel
theorem dL_act_460 : decode cL_act 460 = .ok (.iload_n 2, 1) := by decide +kernel
theorem dL_act_461 : decode cL_act 461 = .ok (.bipush 8, 2) := by decide +kernel
theorem dL_act_463 : decode cL_act 463 = .ok (.ishr, 1) := by decide +kernel
theorem dL_act_464 : decode cL_act 464 = .ok (.iload 8, 2) := by decide +kernel
theorem dL_act_466 : decode cL_act 466 = .ok (.iload 7, 2) := by decide +kernel
theorem dL_act_468 : decode cL_act 468 = .ok (.isub, 1) := by decide +kernel
theorem dL_act_469 : decode cL_act 469 = .ok (.invokestatic 15, 3) := by decide +kernel
theorem dL_act_472 : decode cL_act 472 = .ok (.iadd, 1) := by decide +kernel
theorem dL_act_473 : decode cL_act 473 = .ok (.iastore, 1) := by decide +kernel
theorem dL_act_474 : decode cL_act 474 = .ok (.dup, 1) := by decide +kernel
theorem dL_act_475 : decode cL_act 475 = .ok (.iconst 3, 1) := by decide +kernel
theorem dL_act_476 : decode cL_act 476 = .ok (.iconst 1, 1) := by decide +kernel
theorem dL_act_477 : decode cL_act 477 = .ok (.iload_n 2, 1) := by decide +kernel
theorem dL_act_478 : decode cL_act 478 = .ok (.iconst 5, 1) := by decide +kernel
theorem dL_act_479 : decode cL_act 479 = .ok (.ishr, 1) := by decide +kernel
theorem dL_act_480 : decode cL_act 480 = .ok (.bipush 9, 2) := by decide +kernel
theorem dL_act_482 : decode cL_act 482 = .ok (.invokestatic 15, 3) := by decide +kernel
theorem dL_act_485 : decode cL_act 485 = .ok (.iadd, 1) := by decide +kernel
theorem dL_act_486 : decode cL_act 486 = .ok (.iastore, 1) := by decide +kernel
theorem dL_act_487 : decode cL_act 487 = .ok (.dup, 1) := by decide +kernel
theorem dL_act_488 : decode cL_act 488 = .ok (.iconst 4, 1) := by decide +kernel
theorem dL_act_489 : decode cL_act 489 = .ok (.iconst 1, 1) := by decide +kernel
theorem dL_act_490 : decode cL_act 490 = .ok (.iastore, 1) := by decide +kernel
theorem dL_act_491 : decode cL_act 491 = .ok (.astore 9, 2) := by decide +kernel
theorem dL_act_493 : decode cL_act 493 = .ok (.aload_n 1, 1) := by decide +kernel
theorem dL_act_494 : decode cL_act 494 = .ok (.getfield 62, 3) := by decide +kernel
theorem dL_act_497 : decode cL_act 497 = .ok (.arraylength, 1) := by decide +kernel
theorem dL_act_498 : decode cL_act 498 = .ok (.iconst 4, 1) := by decide +kernel
theorem dL_act_499 : decode cL_act 499 = .ok (.if_icmp .ge 7, 3) := by decide +kernel
theorem dL_act_502 : decode cL_act 502 = .ok (.iconst 1, 1) := by decide +kernel
theorem dL_act_503 : decode cL_act 503 = .ok (.goto 4, 3) := by decide +kernel
theorem dL_act_506 : decode cL_act 506 = .ok (.iconst 0, 1) := by decide +kernel
theorem dL_act_507 : decode cL_act 507 = .ok (.istore 6, 2) := by decide +kernel
theorem dL_act_509 : decode cL_act 509 = .ok (.aload_n 1, 1) := by decide +kernel
theorem dL_act_510 : decode cL_act 510 = .ok (.getfield 62, 3) := by decide +kernel
theorem dL_act_513 : decode cL_act 513 = .ok (.arraylength, 1) := by decide +kernel
theorem dL_act_514 : decode cL_act 514 = .ok (.istore 10, 2) := by decide +kernel
theorem dL_act_516 : decode cL_act 516 = .ok (.iload 6, 2) := by decide +kernel
theorem dL_act_518 : decode cL_act 518 = .ok (.ifCond .eq 9, 3) := by decide +kernel
theorem dL_act_521 : decode cL_act 521 = .ok (.aload_n 1, 1) := by decide +kernel
theorem dL_act_522 : decode cL_act 522 = .ok (.aload 9, 2) := by decide +kernel
theorem dL_act_524 : decode cL_act 524 = .ok (.invokevirtual 66, 3) := by decide +kernel
theorem dL_act_527 : decode cL_act 527 = .ok (.aload_n 0, 1) := by decide +kernel
theorem dL_act_528 : decode cL_act 528 = .ok (.aload 9, 2) := by decide +kernel
theorem dL_act_530 : decode cL_act 530 = .ok (.iconst 0, 1) := by decide +kernel
theorem dL_act_531 : decode cL_act 531 = .ok (.iaload, 1) := by decide +kernel
theorem dL_act_532 : decode cL_act 532 = .ok (.aload 9, 2) := by decide +kernel
theorem dL_act_534 : decode cL_act 534 = .ok (.iconst 1, 1) := by decide +kernel
theorem dL_act_535 : decode cL_act 535 = .ok (.iaload, 1) := by decide +kernel
theorem dL_act_536 : decode cL_act 536 = .ok (.aload 9, 2) := by decide +kernel
theorem dL_act_538 : decode cL_act 538 = .ok (.iconst 2, 1) := by decide +kernel
theorem dL_act_539 : decode cL_act 539 = .ok (.iaload, 1) := by decide +kernel
theorem dL_act_540 : decode cL_act 540 = .ok (.aload 9, 2) := by decide +kernel
theorem dL_act_542 : decode cL_act 542 = .ok (.iconst 3, 1) := by decide +kernel
theorem dL_act_543 : decode cL_act 543 = .ok (.iaload, 1) := by decide +kernel
theorem dL_act_544 : decode cL_act 544 = .ok (.invokevirtual 70, 3) := by decide +kernel
theorem dL_act_547 : decode cL_act 547 = .ok (.iload 10, 2) := by decide +kernel
theorem dL_act_549 : decode cL_act 549 = .ok (.if_icmp .ne 12, 3) := by decide +kernel
theorem dL_act_552 : decode cL_act 552 = .ok (.iload 6, 2) := by decide +kernel
theorem dL_act_554 : decode cL_act 554 = .ok (.ifCond .eq 7, 3) := by decide +kernel
theorem dL_act_557 : decode cL_act 557 = .ok (.iconst 1, 1) := by decide +kernel
theorem dL_act_558 : decode cL_act 558 = .ok (.goto 4, 3) := by decide +kernel
theorem dL_act_561 : decode cL_act 561 = .ok (.iconst 0, 1) := by decide +kernel
theorem dL_act_562 : decode cL_act 562 = .ok (.ireturn, 1) := by decide +kernel
theorem dL_act_563 : decode cL_act 563 = .ok (.aload_n 1, 1) := by decide +kernel
theorem dL_act_564 : decode cL_act 564 = .ok (.getfield 62, 3) := by decide +kernel
theorem dL_act_567 : decode cL_act 567 = .ok (.arraylength, 1) := by decide +kernel
theorem dL_act_568 : decode cL_act 568 = .ok (.ifCond .ne 5, 3) := by decide +kernel
theorem dL_act_571 : decode cL_act 571 = .ok (.iconst 1, 1) := by decide +kernel
theorem dL_act_572 : decode cL_act 572 = .ok (.ireturn, 1) := by decide +kernel
theorem dL_act_573 : decode cL_act 573 = .ok (.iload_n 2, 1) := by decide +kernel
theorem dL_act_574 : decode cL_act 574 = .ok (.iconst 5, 1) := by decide +kernel
theorem dL_act_575 : decode cL_act 575 = .ok (.ishr, 1) := by decide +kernel
theorem dL_act_576 : decode cL_act 576 = .ok (.aload_n 1, 1) := by decide +kernel
theorem dL_act_577 : decode cL_act 577 = .ok (.getfield 62, 3) := by decide +kernel
theorem dL_act_580 : decode cL_act 580 = .ok (.arraylength, 1) := by decide +kernel
theorem dL_act_581 : decode cL_act 581 = .ok (.invokestatic 15, 3) := by decide +kernel
theorem dL_act_584 : decode cL_act 584 = .ok (.istore 7, 2) := by decide +kernel
theorem dL_act_586 : decode cL_act 586 = .ok (.aload_n 1, 1) := by decide +kernel
theorem dL_act_587 : decode cL_act 587 = .ok (.getfield 62, 3) := by decide +kernel
theorem dL_act_590 : decode cL_act 590 = .ok (.iload 7, 2) := by decide +kernel
theorem dL_act_592 : decode cL_act 592 = .ok (.aaload, 1) := by decide +kernel
theorem dL_act_593 : decode cL_act 593 = .ok (.iconst 4, 1) := by decide +kernel
theorem dL_act_594 : decode cL_act 594 = .ok (.iconst 1, 1) := by decide +kernel
theorem dL_act_595 : decode cL_act 595 = .ok (.aload_n 1, 1) := by decide +kernel
theorem dL_act_596 : decode cL_act 596 = .ok (.getfield 62, 3) := by decide +kernel
theorem dL_act_599 : decode cL_act 599 = .ok (.iload 7, 2) := by decide +kernel
theorem dL_act_601 : decode cL_act 601 = .ok (.aaload, 1) := by decide +kernel
theorem dL_act_602 : decode cL_act 602 = .ok (.iconst 4, 1) := by decide +kernel
theorem dL_act_603 : decode cL_act 603 = .ok (.iaload, 1) := by decide +kernel
theorem dL_act_604 : decode cL_act 604 = .ok (.isub, 1) := by decide +kernel
theorem dL_act_605 : decode cL_act 605 = .ok (.iastore, 1) := by decide +kernel
theorem dL_act_606 : decode cL_act 606 = .ok (.aload_n 0, 1) := by decide +kernel
theorem dL_act_607 : decode cL_act 607 = .ok (.iload 7, 2) := by decide +kernel
theorem dL_act_609 : decode cL_act 609 = .ok (.invokevirtual 73, 3) := by decide +kernel
theorem dL_act_612 : decode cL_act 612 = .ok (.aload_n 1, 1) := by decide +kernel
theorem dL_act_613 : decode cL_act 613 = .ok (.getfield 62, 3) := by decide +kernel
theorem dL_act_616 : decode cL_act 616 = .ok (.iload 7, 2) := by decide +kernel
theorem dL_act_618 : decode cL_act 618 = .ok (.aaload, 1) := by decide +kernel
theorem dL_act_619 : decode cL_act 619 = .ok (.iconst 4, 1) := by decide +kernel
theorem dL_act_620 : decode cL_act 620 = .ok (.iaload, 1) := by decide +kernel
theorem dL_act_621 : decode cL_act 621 = .ok (.iconst 1, 1) := by decide +kernel
theorem dL_act_622 : decode cL_act 622 = .ok (.if_icmp .ne 7, 3) := by decide +kernel
theorem dL_act_625 : decode cL_act 625 = .ok (.iconst 1, 1) := by decide +kernel
theorem dL_act_626 : decode cL_act 626 = .ok (.goto 4, 3) := by decide +kernel
theorem dL_act_629 : decode cL_act 629 = .ok (.iconst 0, 1) := by decide +kernel
theorem dL_act_630 : decode cL_act 630 = .ok (.if_icmp .ne 7, 3) := by decide +kernel
theorem dL_act_633 : decode cL_act 633 = .ok (.iconst 1, 1) := by decide +kernel
theorem dL_act_634 : decode cL_act 634 = .ok (.goto 4, 3) := by decide +kernel
theorem dL_act_637 : decode cL_act 637 = .ok (.iconst 0, 1) := by decide +kernel
theorem dL_act_638 : decode cL_act 638 = .ok (.ireturn, 1) := by decide +kernel
theorem dL_act_639 : decode cL_act 639 = .ok (.iconst 1, 1) := by decide +kernel
theorem dL_act_640 : decode cL_act 640 = .ok (.iload_n 2, 1) := by decide +kernel
theorem dL_act_641 : decode cL_act 641 = .ok (.bipush 6, 2) := by decide +kernel
theorem dL_act_643 : decode cL_act 643 = .ok (.ishr, 1) := by decide +kernel
theorem dL_act_644 : decode cL_act 644 = .ok (.iload_n 2, 1) := by decide +kernel
theorem dL_act_645 : decode cL_act 645 = .ok (.bipush 8, 2) := by decide +kernel
theorem dL_act_647 : decode cL_act 647 = .ok (.ishr, 1) := by decide +kernel
theorem dL_act_648 : decode cL_act 648 = .ok (.iconst 2, 1) := by decide +kernel
theorem dL_act_649 : decode cL_act 649 = .ok (.invokestatic 15, 3) := by decide +kernel
theorem dL_act_652 : decode cL_act 652 = .ok (.ifCond .ne 8, 3) := by decide +kernel
theorem dL_act_655 : decode cL_act 655 = .ok (.bipush 20, 2) := by decide +kernel
theorem dL_act_657 : decode cL_act 657 = .ok (.goto 4, 3) := by decide +kernel
theorem dL_act_660 : decode cL_act 660 = .ok (.iconst 3, 1) := by decide +kernel
theorem dL_act_661 : decode cL_act 661 = .ok (.invokestatic 15, 3) := by decide +kernel
theorem dL_act_664 : decode cL_act 664 = .ok (.iadd, 1) := by decide +kernel
theorem dL_act_665 : decode cL_act 665 = .ok (.istore 7, 2) := by decide +kernel
theorem dL_act_667 : decode cL_act 667 = .ok (.iload 5, 2) := by decide +kernel
theorem dL_act_669 : decode cL_act 669 = .ok (.bipush 8, 2) := by decide +kernel
theorem dL_act_671 : decode cL_act 671 = .ok (.if_icmp .ge 7, 3) := by decide +kernel
theorem dL_act_674 : decode cL_act 674 = .ok (.iconst 1, 1) := by decide +kernel
theorem dL_act_675 : decode cL_act 675 = .ok (.goto 4, 3) := by decide +kernel
theorem dL_act_678 : decode cL_act 678 = .ok (.iconst 0, 1) := by decide +kernel
theorem dL_act_679 : decode cL_act 679 = .ok (.istore 6, 2) := by decide +kernel
theorem dL_act_681 : decode cL_act 681 = .ok (.iload 6, 2) := by decide +kernel
theorem dL_act_683 : decode cL_act 683 = .ok (.ifCond .eq 11, 3) := by decide +kernel
theorem dL_act_686 : decode cL_act 686 = .ok (.aload_n 1, 1) := by decide +kernel
theorem dL_act_687 : decode cL_act 687 = .ok (.iload 4, 2) := by decide +kernel
theorem dL_act_689 : decode cL_act 689 = .ok (.iload 7, 2) := by decide +kernel
theorem dL_act_691 : decode cL_act 691 = .ok (.invokevirtual 76, 3) := by decide +kernel
theorem dL_act_694 : decode cL_act 694 = .ok (.aload_n 0, 1) := by decide +kernel
theorem dL_act_695 : decode cL_act 695 = .ok (.iload 4, 2) := by decide +kernel
theorem dL_act_697 : decode cL_act 697 = .ok (.iload 7, 2) := by decide +kernel
theorem dL_act_699 : decode cL_act 699 = .ok (.invokevirtual 80, 3) := by decide +kernel
theorem dL_act_702 : decode cL_act 702 = .ok (.iload 5, 2) := by decide +kernel
theorem dL_act_704 : decode cL_act 704 = .ok (.if_icmp .ne 12, 3) := by decide +kernel
theorem dL_act_707 : decode cL_act 707 = .ok (.iload 6, 2) := by decide +kernel
theorem dL_act_709 : decode cL_act 709 = .ok (.ifCond .eq 7, 3) := by decide +kernel
theorem dL_act_712 : decode cL_act 712 = .ok (.iconst 1, 1) := by decide +kernel
theorem dL_act_713 : decode cL_act 713 = .ok (.goto 4, 3) := by decide +kernel
theorem dL_act_716 : decode cL_act 716 = .ok (.iconst 0, 1) := by decide +kernel
theorem dL_act_717 : decode cL_act 717 = .ok (.ireturn, 1) := by decide +kernel
theorem dL_act_718 : decode cL_act 718 = .ok (.iload 5, 2) := by decide +kernel
theorem dL_act_720 : decode cL_act 720 = .ok (.ifCond .ne 5, 3) := by decide +kernel
theorem dL_act_723 : decode cL_act 723 = .ok (.iconst 1, 1) := by decide +kernel
theorem dL_act_724 : decode cL_act 724 = .ok (.ireturn, 1) := by decide +kernel
theorem dL_act_725 : decode cL_act 725 = .ok (.iload_n 2, 1) := by decide +kernel
theorem dL_act_726 : decode cL_act 726 = .ok (.bipush 6, 2) := by decide +kernel
theorem dL_act_728 : decode cL_act 728 = .ok (.ishr, 1) := by decide +kernel
theorem dL_act_729 : decode cL_act 729 = .ok (.iload 5, 2) := by decide +kernel
theorem dL_act_731 : decode cL_act 731 = .ok (.invokestatic 15, 3) := by decide +kernel
theorem dL_act_734 : decode cL_act 734 = .ok (.istore 7, 2) := by decide +kernel
theorem dL_act_736 : decode cL_act 736 = .ok (.aload_n 1, 1) := by decide +kernel
theorem dL_act_737 : decode cL_act 737 = .ok (.getfield 21, 3) := by decide +kernel
theorem dL_act_740 : decode cL_act 740 = .ok (.iload 7, 2) := by decide +kernel
theorem dL_act_742 : decode cL_act 742 = .ok (.aaload, 1) := by decide +kernel
theorem dL_act_743 : decode cL_act 743 = .ok (.getfield 83, 3) := by decide +kernel
theorem dL_act_746 : decode cL_act 746 = .ok (.iload 4, 2) := by decide +kernel
theorem dL_act_748 : decode cL_act 748 = .ok (.iaload, 1) := by decide +kernel
theorem dL_act_749 : decode cL_act 749 = .ok (.iconst 2, 1) := by decide +kernel
theorem dL_act_750 : decode cL_act 750 = .ok (.if_icmp .eq 7, 3) := by decide +kernel
theorem dL_act_753 : decode cL_act 753 = .ok (.iconst 1, 1) := by decide +kernel
theorem dL_act_754 : decode cL_act 754 = .ok (.goto 4, 3) := by decide +kernel
theorem dL_act_757 : decode cL_act 757 = .ok (.iconst 0, 1) := by decide +kernel
theorem dL_act_758 : decode cL_act 758 = .ok (.istore 6, 2) := by decide +kernel
theorem dL_act_760 : decode cL_act 760 = .ok (.aload_n 1, 1) := by decide +kernel
theorem dL_act_761 : decode cL_act 761 = .ok (.getfield 21, 3) := by decide +kernel
theorem dL_act_764 : decode cL_act 764 = .ok (.iload 7, 2) := by decide +kernel
theorem dL_act_766 : decode cL_act 766 = .ok (.aaload, 1) := by decide +kernel
theorem dL_act_767 : decode cL_act 767 = .ok (.getfield 83, 3) := by decide +kernel
theorem dL_act_770 : decode cL_act 770 = .ok (.iload 4, 2) := by decide +kernel
theorem dL_act_772 : decode cL_act 772 = .ok (.iaload, 1) := by decide +kernel
theorem dL_act_773 : decode cL_act 773 = .ok (.iconst 1, 1) := by decide +kernel
theorem dL_act_774 : decode cL_act 774 = .ok (.if_icmp .ne 13, 3) := by decide +kernel
theorem dL_act_777 : decode cL_act 777 = .ok (.aload_n 1, 1) := by decide +kernel
theorem dL_act_778 : decode cL_act 778 = .ok (.getfield 9, 3) := by decide +kernel
theorem dL_act_781 : decode cL_act 781 = .ok (.iload 4, 2) := by decide +kernel
theorem dL_act_783 : decode cL_act 783 = .ok (.iaload, 1) := by decide +kernel
theorem dL_act_784 : decode cL_act 784 = .ok (.goto 4, 3) := by decide +kernel
theorem dL_act_787 : decode cL_act 787 = .ok (.iconst 0, 1) := by decide +kernel
theorem dL_act_788 : decode cL_act 788 = .ok (.istore 8, 2) := by decide +kernel
theorem dL_act_790 : decode cL_act 790 = .ok (.iload 6, 2) := by decide +kernel
theorem dL_act_792 : decode cL_act 792 = .ok (.ifCond .eq 16, 3) := by decide +kernel
theorem dL_act_795 : decode cL_act 795 = .ok (.aload_n 1, 1) := by decide +kernel
theorem dL_act_796 : decode cL_act 796 = .ok (.aload_n 1, 1) := by decide +kernel
theorem dL_act_797 : decode cL_act 797 = .ok (.getfield 21, 3) := by decide +kernel
theorem dL_act_800 : decode cL_act 800 = .ok (.iload 7, 2) := by decide +kernel
theorem dL_act_802 : decode cL_act 802 = .ok (.aaload, 1) := by decide +kernel
theorem dL_act_803 : decode cL_act 803 = .ok (.iload 4, 2) := by decide +kernel
theorem dL_act_805 : decode cL_act 805 = .ok (.invokevirtual 88, 3) := by decide +kernel
theorem dL_act_808 : decode cL_act 808 = .ok (.aload_n 0, 1) := by decide +kernel
theorem dL_act_809 : decode cL_act 809 = .ok (.iload 7, 2) := by decide +kernel
theorem dL_act_811 : decode cL_act 811 = .ok (.iload 4, 2) := by decide +kernel
theorem dL_act_813 : decode cL_act 813 = .ok (.invokevirtual 92, 3) := by decide +kernel
theorem dL_act_816 : decode cL_act 816 = .ok (.iload 8, 2) := by decide +kernel
theorem dL_act_818 : decode cL_act 818 = .ok (.if_icmp .ne 12, 3) := by decide +kernel
theorem dL_act_821 : decode cL_act 821 = .ok (.iload 6, 2) := by decide +kernel
theorem dL_act_823 : decode cL_act 823 = .ok (.ifCond .eq 7, 3) := by decide +kernel
theorem dL_act_826 : decode cL_act 826 = .ok (.iconst 1, 1) := by decide +kernel
theorem dL_act_827 : decode cL_act 827 = .ok (.goto 4, 3) := by decide +kernel
theorem dL_act_830 : decode cL_act 830 = .ok (.iconst 0, 1) := by decide +kernel
theorem dL_act_831 : decode cL_act 831 = .ok (.ireturn, 1) := by decide +kernel
theorem dL_act_832 : decode cL_act 832 = .ok (.iconst 1, 1) := by decide +kernel
theorem dL_act_833 : decode cL_act 833 = .ok (.iload_n 2, 1) := by decide +kernel
theorem dL_act_834 : decode cL_act 834 = .ok (.iconst 4, 1) := by decide +kernel
theorem dL_act_835 : decode cL_act 835 = .ok (.ishr, 1) := by decide +kernel
theorem dL_act_836 : decode cL_act 836 = .ok (.iload_n 2, 1) := by decide +kernel
theorem dL_act_837 : decode cL_act 837 = .ok (.bipush 8, 2) := by decide +kernel
theorem dL_act_839 : decode cL_act 839 = .ok (.ishr, 1) := by decide +kernel
theorem dL_act_840 : decode cL_act 840 = .ok (.bipush 6, 2) := by decide +kernel
theorem dL_act_842 : decode cL_act 842 = .ok (.invokestatic 15, 3) := by decide +kernel
theorem dL_act_845 : decode cL_act 845 = .ok (.ifCond .ne 8, 3) := by decide +kernel
theorem dL_act_848 : decode cL_act 848 = .ok (.bipush 60, 2) := by decide +kernel
theorem dL_act_850 : decode cL_act 850 = .ok (.goto 4, 3) := by decide +kernel
theorem dL_act_853 : decode cL_act 853 = .ok (.iconst 5, 1) := by decide +kernel
theorem dL_act_854 : decode cL_act 854 = .ok (.invokestatic 15, 3) := by decide +kernel
theorem dL_act_857 : decode cL_act 857 = .ok (.iadd, 1) := by decide +kernel
theorem dL_act_858 : decode cL_act 858 = .ok (.istore 7, 2) := by decide +kernel
theorem dL_act_860 : decode cL_act 860 = .ok (.aload_n 1, 1) := by decide +kernel
theorem dL_act_861 : decode cL_act 861 = .ok (.invokevirtual 95, 3) := by decide +kernel
theorem dL_act_864 : decode cL_act 864 = .ok (.istore 8, 2) := by decide +kernel
theorem dL_act_866 : decode cL_act 866 = .ok (.aload_n 1, 1) := by decide +kernel
theorem dL_act_867 : decode cL_act 867 = .ok (.iload 7, 2) := by decide +kernel
theorem dL_act_869 : decode cL_act 869 = .ok (.invokevirtual 99, 3) := by decide +kernel
theorem dL_act_872 : decode cL_act 872 = .ok (.aload_n 0, 1) := by decide +kernel
theorem dL_act_873 : decode cL_act 873 = .ok (.iload 7, 2) := by decide +kernel
theorem dL_act_875 : decode cL_act 875 = .ok (.invokevirtual 102, 3) := by decide +kernel
theorem dL_act_878 : decode cL_act 878 = .ok (.aload_n 1, 1) := by decide +kernel
theorem dL_act_879 : decode cL_act 879 = .ok (.invokevirtual 95, 3) := by decide +kernel
theorem dL_act_882 : decode cL_act 882 = .ok (.iload 8, 2) := by decide +kernel
theorem dL_act_884 : decode cL_act 884 = .ok (.isub, 1) := by decide +kernel
theorem dL_act_885 : decode cL_act 885 = .ok (.if_icmp .ne 7, 3) := by decide +kernel
theorem dL_act_888 : decode cL_act 888 = .ok (.iconst 1, 1) := by decide +kernel
theorem dL_act_889 : decode cL_act 889 = .ok (.goto 4, 3) := by decide +kernel
theorem dL_act_892 : decode cL_act 892 = .ok (.iconst 0, 1) := by decide +kernel
theorem dL_act_893 : decode cL_act 893 = .ok (.ireturn, 1) := by decide +kernel
theorem dL_act_894 : decode cL_act 894 = .ok (.astore 7, 2) := by decide +kernel
theorem dL_act_896 : decode cL_act 896 = .ok (.iload 6, 2) := by decide +kernel
theorem dL_act_898 : decode cL_act 898 = .ok (.ifCond .ne 7, 3) := by decide +kernel
theorem dL_act_901 : decode cL_act 901 = .ok (.iconst 1, 1) := by decide +kernel
theorem dL_act_902 : decode cL_act 902 = .ok (.goto 4, 3) := by decide +kernel
theorem dL_act_905 : decode cL_act 905 = .ok (.iconst 0, 1) := by decide +kernel
theorem dL_act_906 : decode cL_act 906 = .ok (.ireturn, 1) := by decide +kernel
theorem dL_build_0 : decode cL_build 0 = .ok (.new 10, 3) := by decide +kernel
theorem dL_build_3 : decode cL_build 3 = .ok (.dup, 1) := by decide +kernel
theorem dL_build_4 : decode cL_build 4 = .ok (.invokespecial 107, 3) := by decide +kernel
theorem dL_build_7 : decode cL_build 7 = .ok (.astore_n 2, 1) := by decide +kernel
theorem dL_build_8 : decode cL_build 8 = .ok (.iconst 2, 1) := by decide +kernel
theorem dL_build_9 : decode cL_build 9 = .ok (.aload_n 1, 1) := by decide +kernel
theorem dL_build_10 : decode cL_build 10 = .ok (.iconst 0, 1) := by decide +kernel
theorem dL_build_11 : decode cL_build 11 = .ok (.invokestatic 108, 3) := by decide +kernel
theorem dL_build_14 : decode cL_build 14 = .ok (.bipush 11, 2) := by decide +kernel
theorem dL_build_16 : decode cL_build 16 = .ok (.invokestatic 15, 3) := by decide +kernel
theorem dL_build_19 : decode cL_build 19 = .ok (.iadd, 1) := by decide +kernel
theorem dL_build_20 : decode cL_build 20 = .ok (.istore_n 3, 1) := by decide +kernel
theorem dL_build_21 : decode cL_build 21 = .ok (.aload_n 2, 1) := by decide +kernel
theorem dL_build_22 : decode cL_build 22 = .ok (.iload_n 3, 1) := by decide +kernel
theorem dL_build_23 : decode cL_build 23 = .ok (.invokevirtual 25, 3) := by decide +kernel
theorem dL_build_26 : decode cL_build 26 = .ok (.aload_n 0, 1) := by decide +kernel
theorem dL_build_27 : decode cL_build 27 = .ok (.iload_n 3, 1) := by decide +kernel
theorem dL_build_28 : decode cL_build 28 = .ok (.invokevirtual 29, 3) := by decide +kernel
theorem dL_build_31 : decode cL_build 31 = .ok (.iload_n 3, 1) := by decide +kernel
theorem dL_build_32 : decode cL_build 32 = .ok (.iconst 1, 1) := by decide +kernel
theorem dL_build_33 : decode cL_build 33 = .ok (.isub, 1) := by decide +kernel
theorem dL_build_34 : decode cL_build 34 = .ok (.if_icmp .eq 5, 3) := by decide +kernel
theorem dL_build_37 : decode cL_build 37 = .ok (.aconst_null, 1) := by decide +kernel
theorem dL_build_38 : decode cL_build 38 = .ok (.areturn, 1) := by decide +kernel
theorem dL_build_39 : decode cL_build 39 = .ok (.bipush 10, 2) := by decide +kernel
theorem dL_build_41 : decode cL_build 41 = .ok (.aload_n 1, 1) := by decide +kernel
theorem dL_build_42 : decode cL_build 42 = .ok (.iconst 0, 1) := by decide +kernel
theorem dL_build_43 : decode cL_build 43 = .ok (.invokestatic 108, 3) := by decide +kernel
theorem dL_build_46 : decode cL_build 46 = .ok (.iconst 4, 1) := by decide +kernel
theorem dL_build_47 : decode cL_build 47 = .ok (.ishr, 1) := by decide +kernel
theorem dL_build_48 : decode cL_build 48 = .ok (.bipush 20, 2) := by decide +kernel
theorem dL_build_50 : decode cL_build 50 = .ok (.invokestatic 15, 3) := by decide +kernel
theorem dL_build_53 : decode cL_build 53 = .ok (.iadd, 1) := by decide +kernel
theorem dL_build_54 : decode cL_build 54 = .ok (.istore 4, 2) := by decide +kernel
theorem dL_build_56 : decode cL_build 56 = .ok (.iconst 0, 1) := by decide +kernel
theorem dL_build_57 : decode cL_build 57 = .ok (.istore 5, 2) := by decide +kernel
theorem dL_build_59 : decode cL_build 59 = .ok (.iload 5, 2) := by decide +kernel
theorem dL_build_61 : decode cL_build 61 = .ok (.iload 4, 2) := by decide +kernel
theorem dL_build_63 : decode cL_build 63 = .ok (.if_icmp .ge 81, 3) := by decide +kernel
theorem dL_build_66 : decode cL_build 66 = .ok (.aload_n 1, 1) := by decide +kernel
theorem dL_build_67 : decode cL_build 67 = .ok (.iconst 1, 1) := by decide +kernel
theorem dL_build_68 : decode cL_build 68 = .ok (.iload 5, 2) := by decide +kernel
theorem dL_build_70 : decode cL_build 70 = .ok (.bipush 15, 2) := by decide +kernel
theorem dL_build_72 : decode cL_build 72 = .ok (.irem, 1) := by decide +kernel
theorem dL_build_73 : decode cL_build 73 = .ok (.iadd, 1) := by decide +kernel
theorem dL_build_74 : decode cL_build 74 = .ok (.invokestatic 108, 3) := by decide +kernel
theorem dL_build_77 : decode cL_build 77 = .ok (.iload 5, 2) := by decide +kernel
theorem dL_build_79 : decode cL_build 79 = .ok (.bipush 15, 2) := by decide +kernel
theorem dL_build_81 : decode cL_build 81 = .ok (.idiv, 1) := by decide +kernel
theorem dL_build_82 : decode cL_build 82 = .ok (.iconst 3, 1) := by decide +kernel
theorem dL_build_83 : decode cL_build 83 = .ok (.imul, 1) := by decide +kernel
theorem dL_build_84 : decode cL_build 84 = .ok (.ishr, 1) := by decide +kernel
theorem dL_build_85 : decode cL_build 85 = .ok (.bipush 37, 2) := by decide +kernel
theorem dL_build_87 : decode cL_build 87 = .ok (.iload 5, 2) := by decide +kernel
theorem dL_build_89 : decode cL_build 89 = .ok (.imul, 1) := by decide +kernel
theorem dL_build_90 : decode cL_build 90 = .ok (.iadd, 1) := by decide +kernel
theorem dL_build_91 : decode cL_build 91 = .ok (.istore 6, 2) := by decide +kernel
theorem dL_build_93 : decode cL_build 93 = .ok (.aload_n 0, 1) := by decide +kernel
theorem dL_build_94 : decode cL_build 94 = .ok (.aload_n 2, 1) := by decide +kernel
theorem dL_build_95 : decode cL_build 95 = .ok (.iload 5, 2) := by decide +kernel
theorem dL_build_97 : decode cL_build 97 = .ok (.iconst 4, 1) := by decide +kernel
theorem dL_build_98 : decode cL_build 98 = .ok (.irem, 1) := by decide +kernel
theorem dL_build_99 : decode cL_build 99 = .ok (.iconst 3, 1) := by decide +kernel
theorem dL_build_100 : decode cL_build 100 = .ok (.if_icmp .ge 28, 3) := by decide +kernel
theorem dL_build_103 : decode cL_build 103 = .ok (.iload 6, 2) := by decide +kernel
theorem dL_build_105 : decode cL_build 105 = .ok (.iload 6, 2) := by decide +kernel
theorem dL_build_107 : decode cL_build 107 = .ok (.bipush 20, 2) := by decide +kernel
theorem dL_build_109 : decode cL_build 109 = .ok (.invokestatic 15, 3) := by decide +kernel
theorem dL_build_112 : decode cL_build 112 = .ok (.isub, 1) := by decide +kernel
theorem dL_build_113 : decode cL_build 113 = .ok (.iconst 1, 1) := by decide +kernel
theorem dL_build_114 : decode cL_build 114 = .ok (.iadd, 1) := by decide +kernel
theorem dL_build_115 : decode cL_build 115 = .ok (.iload 6, 2) := by decide +kernel
theorem dL_build_117 : decode cL_build 117 = .ok (.iconst 5, 1) := by decide +kernel
theorem dL_build_118 : decode cL_build 118 = .ok (.ishr, 1) := by decide +kernel
theorem dL_build_119 : decode cL_build 119 = .ok (.bipush 14, 2) := by decide +kernel
theorem dL_build_121 : decode cL_build 121 = .ok (.invokestatic 15, 3) := by decide +kernel
theorem dL_build_124 : decode cL_build 124 = .ok (.iadd, 1) := by decide +kernel
theorem dL_build_125 : decode cL_build 125 = .ok (.goto 5, 3) := by decide +kernel
theorem dL_build_128 : decode cL_build 128 = .ok (.iload 6, 2) := by decide +kernel
theorem dL_build_130 : decode cL_build 130 = .ok (.invokestatic 112, 3) := by decide +kernel
theorem dL_build_133 : decode cL_build 133 = .ok (.ifCond .ne 5, 3) := by decide +kernel
theorem dL_build_136 : decode cL_build 136 = .ok (.aconst_null, 1) := by decide +kernel
theorem dL_build_137 : decode cL_build 137 = .ok (.areturn, 1) := by decide +kernel
theorem dL_build_138 : decode cL_build 138 = .ok (.iinc 5 1, 3) := by decide +kernel
theorem dL_build_141 : decode cL_build 141 = .ok (.goto (-82), 3) := by decide +kernel
theorem dL_build_144 : decode cL_build 144 = .ok (.aload_n 2, 1) := by decide +kernel
theorem dL_build_145 : decode cL_build 145 = .ok (.areturn, 1) := by decide +kernel
abbrev vwCl : List vw_C := [(RX0, TX0, 3), (RX1, TX1, 11), (RX2, TX2, 8), (RX3, TX3, 3), (RX4, TX4, 6), (RX5, TX5, 9), (RX6, TX6, 7)]

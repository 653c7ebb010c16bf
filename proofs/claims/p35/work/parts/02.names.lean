def RX0 : String := "NightValley$Choice"
def TX0 : u_T := fun k => match k with
  | 0 => ("NightValley$Choice", "costs", "[I", true)
  | 1 => ("NightValley$Choice", "spares", "[I", true)
  | _ => ("NightValley$Choice", "count", "I", false)
def tyX0 : Nat → FieldType := fun k => match k with
  | 0 => .array .int
  | 1 => .array .int
  | _ => .int
abbrev wsX00 : List Cond := u_ws RX0 TX0 3
theorem nmX0 : ∀ a, a < 3 → ∀ b, b < 3 → a ≠ b → (TX0 a).2.1 ≠ (TX0 b).2.1 := by decide +kernel
theorem tyX0_ok : ∀ k, k < 3 → parseFieldDescriptor (TX0 k).2.2.1 = some (tyX0 k) := by decide +kernel
abbrev cX0_init : ByteArray := prog_2_method_1_code
def yX0_init : MethodName := ⟨RX0, "<init>", "()V"⟩
abbrev cX0_clear : ByteArray := prog_2_method_2_code
def yX0_clear : MethodName := ⟨RX0, "clear", "()V"⟩
abbrev cX0_offer : ByteArray := prog_2_method_3_code
def yX0_offer : MethodName := ⟨RX0, "offer", "(II)V"⟩
abbrev cX0_best : ByteArray := prog_2_method_4_code
def yX0_best : MethodName := ⟨RX0, "best", "(I)I"⟩
abbrev cX0_sumOver : ByteArray := prog_2_method_5_code
def yX0_sumOver : MethodName := ⟨RX0, "sumOver", "(I[I)I"⟩
def RX1 : String := "NightValley$Label"
def TX1 : u_T := fun k => match k with
  | 0 => ("NightValley$Label", "held", "Z", false)
  | 1 => ("NightValley$Label", "successes", "I", false)
  | _ => ("NightValley$Label", "failures", "I", false)
def tyX1 : Nat → FieldType := fun k => match k with
  | 0 => .boolean
  | 1 => .int
  | _ => .int
abbrev wsX10 : List Cond := u_ws RX1 TX1 3
theorem nmX1 : ∀ a, a < 3 → ∀ b, b < 3 → a ≠ b → (TX1 a).2.1 ≠ (TX1 b).2.1 := by decide +kernel
theorem tyX1_ok : ∀ k, k < 3 → parseFieldDescriptor (TX1 k).2.2.1 = some (tyX1 k) := by decide +kernel
abbrev cX1_init : ByteArray := prog_3_method_1_code
def yX1_init : MethodName := ⟨RX1, "<init>", "()V"⟩
abbrev cX1_follow : ByteArray := prog_3_method_2_code
def yX1_follow : MethodName := ⟨RX1, "follow", "(Z)V"⟩
def RX2 : String := "NightValley$Lamp"
def TX2 : u_T := fun k => match k with
  | 0 => ("NightValley$Lamp", "village", "LNightValley$Village;", true)
  | 1 => ("NightValley$Lamp", "place", "LNightValley$Place;", true)
  | 2 => ("NightValley$Lamp", "flux", "I", true)
  | 3 => ("NightValley$Lamp", "colour", "I", true)
  | 4 => ("NightValley$Lamp", "shield", "I", false)
  | 5 => ("NightValley$Lamp", "dim", "I", false)
  | 6 => ("NightValley$Lamp", "from", "I", false)
  | 7 => ("NightValley$Lamp", "to", "I", false)
  | 8 => ("NightValley$Lamp", "exempt", "Z", false)
  | 9 => ("NightValley$Lamp", "age", "I", false)
  | 10 => ("NightValley$Lamp", "boundEnd", "I", false)
  | _ => ("NightValley$Lamp", "nextFine", "I", false)
def tyX2 : Nat → FieldType := fun k => match k with
  | 0 => .object "NightValley$Village"
  | 1 => .object "NightValley$Place"
  | 2 => .int
  | 3 => .int
  | 4 => .int
  | 5 => .int
  | 6 => .int
  | 7 => .int
  | 8 => .boolean
  | 9 => .int
  | 10 => .int
  | _ => .int
abbrev wsX20 : List Cond := u_ws RX2 TX2 12
theorem nmX2 : ∀ a, a < 12 → ∀ b, b < 12 → a ≠ b → (TX2 a).2.1 ≠ (TX2 b).2.1 := by decide +kernel
theorem tyX2_ok : ∀ k, k < 12 → parseFieldDescriptor (TX2 k).2.2.1 = some (tyX2 k) := by decide +kernel
abbrev cX2_init : ByteArray := prog_4_method_1_code
def yX2_init : MethodName := ⟨RX2, "<init>", "(LNightValley$Village;LNightValley$Place;III)V"⟩
abbrev cX2_hasHour : ByteArray := prog_4_method_2_code
def yX2_hasHour : MethodName := ⟨RX2, "hasHour", "(I)Z"⟩
abbrev cX2_light : ByteArray := prog_4_method_3_code
def yX2_light : MethodName := ⟨RX2, "light", "()I"⟩
abbrev cX2_skyLight : ByteArray := prog_4_method_4_code
def yX2_skyLight : MethodName := ⟨RX2, "skyLight", "()I"⟩
abbrev cX2_isUnlawful : ByteArray := prog_4_method_5_code
def yX2_isUnlawful : MethodName := ⟨RX2, "isUnlawful", "()Z"⟩
abbrev cX2_boundHours : ByteArray := prog_4_method_6_code
def yX2_boundHours : MethodName := ⟨RX2, "boundHours", "(I)I"⟩
abbrev cX2_refitCost : ByteArray := prog_4_method_7_code
def yX2_refitCost : MethodName := ⟨RX2, "refitCost", "(II)I"⟩
abbrev cX2_refit : ByteArray := prog_4_method_8_code
def yX2_refit : MethodName := ⟨RX2, "refit", "(III)V"⟩
def RX3 : String := "NightValley$Meter"
def TX3 : u_T := fun k => match k with
  | 0 => ("NightValley$Meter", "place", "LNightValley$Place;", true)
  | 1 => ("NightValley$Meter", "zero", "I", true)
  | 2 => ("NightValley$Meter", "drift", "I", true)
  | 3 => ("NightValley$Meter", "readings", "Ljava/util/ArrayList;", true)
  | _ => ("NightValley$Meter", "toldZero", "I", false)
def tyX3 : Nat → FieldType := fun k => match k with
  | 0 => .object "NightValley$Place"
  | 1 => .int
  | 2 => .int
  | 3 => .object "java/util/ArrayList"
  | _ => .int
abbrev wsX30 : List Cond := u_ws RX3 TX3 5
theorem nmX3 : ∀ a, a < 5 → ∀ b, b < 5 → a ≠ b → (TX3 a).2.1 ≠ (TX3 b).2.1 := by decide +kernel
theorem tyX3_ok : ∀ k, k < 5 → parseFieldDescriptor (TX3 k).2.2.1 = some (tyX3 k) := by decide +kernel
abbrev cX3_init : ByteArray := prog_5_method_1_code
def yX3_init : MethodName := ⟨RX3, "<init>", "(LNightValley$Place;II)V"⟩
abbrev cX3_keep : ByteArray := prog_5_method_2_code
def yX3_keep : MethodName := ⟨RX3, "keep", "(LNightValley$Reading;)V"⟩
abbrev cX3_corrected : ByteArray := prog_5_method_3_code
def yX3_corrected : MethodName := ⟨RX3, "corrected", "(LNightValley$Reading;)I"⟩
abbrev cX3_keepsTo : ByteArray := prog_5_method_4_code
def yX3_keepsTo : MethodName := ⟨RX3, "keepsTo", "(I)Z"⟩
abbrev cX3_slope : ByteArray := prog_5_method_5_code
def yX3_slope : MethodName := ⟨RX3, "slope", "()J"⟩
def RX4 : String := "NightValley$Place"
def TX4 : u_T := fun k => match k with
  | 0 => ("NightValley$Place", "x", "I", true)
  | 1 => ("NightValley$Place", "y", "I", true)
  | 2 => ("NightValley$Place", "zone", "LNightValley$Zone;", false)
  | _ => ("NightValley$Place", "ridge", "Z", false)
def tyX4 : Nat → FieldType := fun k => match k with
  | 0 => .int
  | 1 => .int
  | 2 => .object "NightValley$Zone"
  | _ => .boolean
abbrev wsX40 : List Cond := u_ws RX4 TX4 4
theorem nmX4 : ∀ a, a < 4 → ∀ b, b < 4 → a ≠ b → (TX4 a).2.1 ≠ (TX4 b).2.1 := by decide +kernel
theorem tyX4_ok : ∀ k, k < 4 → parseFieldDescriptor (TX4 k).2.2.1 = some (tyX4 k) := by decide +kernel
abbrev cX4_init : ByteArray := prog_6_method_1_code
def yX4_init : MethodName := ⟨RX4, "<init>", "(ILNightValley$Zone;)V"⟩
abbrev cX4_shades : ByteArray := prog_6_method_2_code
def yX4_shades : MethodName := ⟨RX4, "shades", "(LNightValley$Place;LNightValley$Place;)Z"⟩
abbrev cX4_isNearLine : ByteArray := prog_6_method_3_code
def yX4_isNearLine : MethodName := ⟨RX4, "isNearLine", "(LNightValley$Place;LNightValley$Place;)Z"⟩
abbrev cX4_directionOf : ByteArray := prog_6_method_4_code
def yX4_directionOf : MethodName := ⟨RX4, "directionOf", "(LNightValley$Place;)I"⟩
def RX5 : String := "NightValley$Reading"
def TX5 : u_T := fun k => match k with
  | 0 => ("NightValley$Reading", "when", "I", true)
  | _ => ("NightValley$Reading", "value", "I", true)
def tyX5 : Nat → FieldType := fun k => match k with
  | 0 => .int
  | _ => .int
abbrev wsX50 : List Cond := u_ws RX5 TX5 2
theorem nmX5 : ∀ a, a < 2 → ∀ b, b < 2 → a ≠ b → (TX5 a).2.1 ≠ (TX5 b).2.1 := by decide +kernel
theorem tyX5_ok : ∀ k, k < 2 → parseFieldDescriptor (TX5 k).2.2.1 = some (tyX5 k) := by decide +kernel
abbrev cX5_init : ByteArray := prog_7_method_1_code
def yX5_init : MethodName := ⟨RX5, "<init>", "(II)V"⟩
def RX6 : String := "NightValley$Satellite"
def TX6 : u_T := fun k => match k with
  | _ => ("", "", "", false)
def tyX6 : Nat → FieldType := fun k => match k with
  | _ => .int
abbrev wsX60 : List Cond := u_ws RX6 TX6 0
theorem nmX6 : ∀ a, a < 0 → ∀ b, b < 0 → a ≠ b → (TX6 a).2.1 ≠ (TX6 b).2.1 := by decide +kernel
theorem tyX6_ok : ∀ k, k < 0 → parseFieldDescriptor (TX6 k).2.2.1 = some (tyX6 k) := by decide +kernel
def RX7 : String := "NightValley$Village"
def TX7 : u_T := fun k => match k with
  | 0 => ("NightValley$Village", "households", "I", true)
  | 1 => ("NightValley$Village", "coins", "I", false)
  | 2 => ("NightValley$Village", "fined", "I", false)
  | 3 => ("NightValley$Village", "lampCount", "I", false)
  | _ => ("NightValley$Village", "outageEnd", "I", false)
def tyX7 : Nat → FieldType := fun k => match k with
  | 0 => .int
  | 1 => .int
  | 2 => .int
  | 3 => .int
  | _ => .int
abbrev wsX70 : List Cond := u_ws RX7 TX7 5
theorem nmX7 : ∀ a, a < 5 → ∀ b, b < 5 → a ≠ b → (TX7 a).2.1 ≠ (TX7 b).2.1 := by decide +kernel
theorem tyX7_ok : ∀ k, k < 5 → parseFieldDescriptor (TX7 k).2.2.1 = some (tyX7 k) := by decide +kernel
abbrev cX7_init : ByteArray := prog_9_method_1_code
def yX7_init : MethodName := ⟨RX7, "<init>", "(II)V"⟩
abbrev cX7_agrees : ByteArray := prog_9_method_2_code
def yX7_agrees : MethodName := ⟨RX7, "agrees", "(II)Z"⟩
abbrev cX7_payFine : ByteArray := prog_9_method_3_code
def yX7_payFine : MethodName := ⟨RX7, "payFine", "()V"⟩
def RX8 : String := "NightValley$Walk"
def TX8 : u_T := fun k => match k with
  | 0 => ("NightValley$Walk", "grounds", "[I", true)
  | 1 => ("NightValley$Walk", "steps", "[I", true)
  | 2 => ("NightValley$Walk", "reached", "[I", true)
  | _ => ("NightValley$Walk", "reachedCount", "I", false)
def tyX8 : Nat → FieldType := fun k => match k with
  | 0 => .array .int
  | 1 => .array .int
  | 2 => .array .int
  | _ => .int
abbrev wsX80 : List Cond := u_ws RX8 TX8 4
theorem nmX8 : ∀ a, a < 4 → ∀ b, b < 4 → a ≠ b → (TX8 a).2.1 ≠ (TX8 b).2.1 := by decide +kernel
theorem tyX8_ok : ∀ k, k < 4 → parseFieldDescriptor (TX8 k).2.2.1 = some (tyX8 k) := by decide +kernel
abbrev cX8_init : ByteArray := prog_10_method_1_code
def yX8_init : MethodName := ⟨RX8, "<init>", "()V"⟩
abbrev cX8_darken : ByteArray := prog_10_method_2_code
def yX8_darken : MethodName := ⟨RX8, "darken", "()V"⟩
abbrev cX8_shine : ByteArray := prog_10_method_3_code
def yX8_shine : MethodName := ⟨RX8, "shine", "(ILNightValley$Place;)V"⟩
abbrev cX8_leastSteps : ByteArray := prog_10_method_4_code
def yX8_leastSteps : MethodName := ⟨RX8, "leastSteps", "(III)I"⟩
abbrev cX8_goOn : ByteArray := prog_10_method_5_code
def yX8_goOn : MethodName := ⟨RX8, "goOn", "(II)V"⟩
abbrev cX8_reach : ByteArray := prog_10_method_6_code
def yX8_reach : MethodName := ⟨RX8, "reach", "(III)V"⟩
def RX9 : String := "NightValley$Zone"
def TX9 : u_T := fun k => match k with
  | 0 => ("NightValley$Zone", "number", "I", true)
  | 1 => ("NightValley$Zone", "feasts", "[Z", true)
  | 2 => ("NightValley$Zone", "feastDays", "I", false)
  | 3 => ("NightValley$Zone", "curfew", "I", false)
  | 4 => ("NightValley$Zone", "greatestColour", "I", false)
  | _ => ("NightValley$Zone", "leastShield", "I", false)
def tyX9 : Nat → FieldType := fun k => match k with
  | 0 => .int
  | 1 => .array .boolean
  | 2 => .int
  | 3 => .int
  | 4 => .int
  | _ => .int
abbrev wsX90 : List Cond := u_ws RX9 TX9 6
theorem nmX9 : ∀ a, a < 6 → ∀ b, b < 6 → a ≠ b → (TX9 a).2.1 ≠ (TX9 b).2.1 := by decide +kernel
theorem tyX9_ok : ∀ k, k < 6 → parseFieldDescriptor (TX9 k).2.2.1 = some (tyX9 k) := by decide +kernel
abbrev cX9_init : ByteArray := prog_11_method_1_code
def yX9_init : MethodName := ⟨RX9, "<init>", "(I)V"⟩
abbrev cX9_celebrate : ByteArray := prog_11_method_2_code
def yX9_celebrate : MethodName := ⟨RX9, "celebrate", "(I)V"⟩
abbrev cX9_hasFeast : ByteArray := prog_11_method_3_code
def yX9_hasFeast : MethodName := ⟨RX9, "hasFeast", "(I)Z"⟩
abbrev cX9_isOpenAt : ByteArray := prog_11_method_4_code
def yX9_isOpenAt : MethodName := ⟨RX9, "isOpenAt", "(I)Z"⟩
def RX10 : String := "NightValley"
def TX10 : u_T := fun k => match k with
  | 0 => ("NightValley", "zones", "Ljava/util/ArrayList;", true)
  | 1 => ("NightValley", "places", "Ljava/util/ArrayList;", true)
  | 2 => ("NightValley", "villages", "Ljava/util/ArrayList;", true)
  | 3 => ("NightValley", "lamps", "Ljava/util/ArrayList;", true)
  | 4 => ("NightValley", "meters", "Ljava/util/ArrayList;", true)
  | 5 => ("NightValley", "satellites", "Ljava/util/ArrayList;", true)
  | 6 => ("NightValley", "label", "LNightValley$Label;", true)
  | 7 => ("NightValley", "walk", "LNightValley$Walk;", true)
  | 8 => ("NightValley", "choice", "LNightValley$Choice;", true)
  | 9 => ("NightValley", "time", "I", false)
  | _ => ("NightValley", "air", "I", false)
def tyX10 : Nat → FieldType := fun k => match k with
  | 0 => .object "java/util/ArrayList"
  | 1 => .object "java/util/ArrayList"
  | 2 => .object "java/util/ArrayList"
  | 3 => .object "java/util/ArrayList"
  | 4 => .object "java/util/ArrayList"
  | 5 => .object "java/util/ArrayList"
  | 6 => .object "NightValley$Label"
  | 7 => .object "NightValley$Walk"
  | 8 => .object "NightValley$Choice"
  | 9 => .int
  | _ => .int
abbrev wsX100 : List Cond := u_ws RX10 TX10 11
theorem nmX10 : ∀ a, a < 11 → ∀ b, b < 11 → a ≠ b → (TX10 a).2.1 ≠ (TX10 b).2.1 := by decide +kernel
theorem tyX10_ok : ∀ k, k < 11 → parseFieldDescriptor (TX10 k).2.2.1 = some (tyX10 k) := by decide +kernel
abbrev cX10_init : ByteArray := prog_1_method_1_code
def yX10_init : MethodName := ⟨RX10, "<init>", "()V"⟩
abbrev cX10_ridge : ByteArray := prog_1_method_2_code
def yX10_ridge : MethodName := ⟨RX10, "ridge", "(IZ)Z"⟩
abbrev cX10_zone : ByteArray := prog_1_method_3_code
def yX10_zone : MethodName := ⟨RX10, "zone", "(II)I"⟩
abbrev cX10_law : ByteArray := prog_1_method_4_code
def yX10_law : MethodName := ⟨RX10, "law", "(IIII)V"⟩
abbrev cX10_feast : ByteArray := prog_1_method_5_code
def yX10_feast : MethodName := ⟨RX10, "feast", "(II)I"⟩
abbrev cX10_air : ByteArray := prog_1_method_6_code
def yX10_air : MethodName := ⟨RX10, "air", "(I)I"⟩
abbrev cX10_pass : ByteArray := prog_1_method_7_code
def yX10_pass : MethodName := ⟨RX10, "pass", "(I)I"⟩
abbrev cX10_village : ByteArray := prog_1_method_8_code
def yX10_village : MethodName := ⟨RX10, "village", "(II)I"⟩
abbrev cX10_lamp : ByteArray := prog_1_method_9_code
def yX10_lamp : MethodName := ⟨RX10, "lamp", "(IIIII)I"⟩
abbrev cX10_hours : ByteArray := prog_1_method_10_code
def yX10_hours : MethodName := ⟨RX10, "hours", "(III)V"⟩
abbrev cX10_exempt : ByteArray := prog_1_method_11_code
def yX10_exempt : MethodName := ⟨RX10, "exempt", "(IZ)Z"⟩
abbrev cX10_outage : ByteArray := prog_1_method_12_code
def yX10_outage : MethodName := ⟨RX10, "outage", "(II)I"⟩
abbrev cX10_vote : ByteArray := prog_1_method_13_code
def yX10_vote : MethodName := ⟨RX10, "vote", "(IIIII)I"⟩
abbrev cX10_inspect : ByteArray := prog_1_method_14_code
def yX10_inspect : MethodName := ⟨RX10, "inspect", "(I)I"⟩
abbrev cX10_meter : ByteArray := prog_1_method_15_code
def yX10_meter : MethodName := ⟨RX10, "meter", "(III)I"⟩
abbrev cX10_read : ByteArray := prog_1_method_16_code
def yX10_read : MethodName := ⟨RX10, "read", "(I)I"⟩
abbrev cX10_tell : ByteArray := prog_1_method_17_code
def yX10_tell : MethodName := ⟨RX10, "tell", "(II)I"⟩
abbrev cX10_audit : ByteArray := prog_1_method_18_code
def yX10_audit : MethodName := ⟨RX10, "audit", "(I)Z"⟩
abbrev cX10_time : ByteArray := prog_1_method_20_code
def yX10_time : MethodName := ⟨RX10, "time", "()I"⟩
abbrev cX10_ofLamp : ByteArray := prog_1_method_21_code
def yX10_ofLamp : MethodName := ⟨RX10, "ofLamp", "(II)I"⟩
abbrev cX10_ofVillage : ByteArray := prog_1_method_22_code
def yX10_ofVillage : MethodName := ⟨RX10, "ofVillage", "(II)I"⟩
abbrev cX10_gives : ByteArray := prog_1_method_23_code
def yX10_gives : MethodName := ⟨RX10, "gives", "(II)I"⟩
abbrev cX10_glow : ByteArray := prog_1_method_24_code
def yX10_glow : MethodName := ⟨RX10, "glow", "(I)I"⟩
abbrev cX10_glowFrom : ByteArray := prog_1_method_25_code
def yX10_glowFrom : MethodName := ⟨RX10, "glowFrom", "(II)I"⟩
abbrev cX10_ground : ByteArray := prog_1_method_26_code
def yX10_ground : MethodName := ⟨RX10, "ground", "(I)I"⟩
abbrev cX10_way : ByteArray := prog_1_method_27_code
def yX10_way : MethodName := ⟨RX10, "way", "(III)I"⟩
abbrev cX10_ofReading : ByteArray := prog_1_method_28_code
def yX10_ofReading : MethodName := ⟨RX10, "ofReading", "(III)I"⟩
abbrev cX10_trend : ByteArray := prog_1_method_29_code
def yX10_trend : MethodName := ⟨RX10, "trend", "(I)J"⟩
abbrev cX10_isHeld : ByteArray := prog_1_method_30_code
def yX10_isHeld : MethodName := ⟨RX10, "isHeld", "()Z"⟩
abbrev cX10_culprit : ByteArray := prog_1_method_32_code
def yX10_culprit : MethodName := ⟨RX10, "culprit", "(I)I"⟩
abbrev cX10_plan : ByteArray := prog_1_method_33_code
def yX10_plan : MethodName := ⟨RX10, "plan", "(III)I"⟩
abbrev cX10_needNumber : ByteArray := prog_1_method_34_code
def yX10_needNumber : MethodName := ⟨RX10, "needNumber", "(II)V"⟩
abbrev cX10_needRange : ByteArray := prog_1_method_35_code
def yX10_needRange : MethodName := ⟨RX10, "needRange", "(III)V"⟩
abbrev cX10_needState : ByteArray := prog_1_method_36_code
def yX10_needState : MethodName := ⟨RX10, "needState", "(Z)V"⟩
abbrev cX10_placeOf : ByteArray := prog_1_method_37_code
def yX10_placeOf : MethodName := ⟨RX10, "placeOf", "(I)LNightValley$Place;"⟩
abbrev cX10_zoneOf : ByteArray := prog_1_method_38_code
def yX10_zoneOf : MethodName := ⟨RX10, "zoneOf", "(I)LNightValley$Zone;"⟩
abbrev cX10_villageOf : ByteArray := prog_1_method_39_code
def yX10_villageOf : MethodName := ⟨RX10, "villageOf", "(I)LNightValley$Village;"⟩
abbrev cX10_lampOf : ByteArray := prog_1_method_40_code
def yX10_lampOf : MethodName := ⟨RX10, "lampOf", "(I)LNightValley$Lamp;"⟩
abbrev cX10_meterOf : ByteArray := prog_1_method_41_code
def yX10_meterOf : MethodName := ⟨RX10, "meterOf", "(I)LNightValley$Meter;"⟩
abbrev cX10_isNight : ByteArray := prog_1_method_42_code
def yX10_isNight : MethodName := ⟨RX10, "isNight", "(I)Z"⟩
abbrev cX10_moonAt : ByteArray := prog_1_method_43_code
def yX10_moonAt : MethodName := ⟨RX10, "moonAt", "(I)I"⟩
abbrev cX10_weakened : ByteArray := prog_1_method_44_code
def yX10_weakened : MethodName := ⟨RX10, "weakened", "(III)I"⟩
abbrev cX10_ageLamps : ByteArray := prog_1_method_45_code
def yX10_ageLamps : MethodName := ⟨RX10, "ageLamps", "()V"⟩
abbrev cX10_isBurning : ByteArray := prog_1_method_46_code
def yX10_isBurning : MethodName := ⟨RX10, "isBurning", "(LNightValley$Lamp;)Z"⟩
abbrev cX10_burningLampsOf : ByteArray := prog_1_method_47_code
def yX10_burningLampsOf : MethodName := ⟨RX10, "burningLampsOf", "(LNightValley$Village;)I"⟩
abbrev cX10_givenBy : ByteArray := prog_1_method_48_code
def yX10_givenBy : MethodName := ⟨RX10, "givenBy", "(LNightValley$Lamp;LNightValley$Place;)I"⟩
abbrev cX10_airFactor : ByteArray := prog_1_method_49_code
def yX10_airFactor : MethodName := ⟨RX10, "airFactor", "()I"⟩
abbrev cX10_glowOf : ByteArray := prog_1_method_50_code
def yX10_glowOf : MethodName := ⟨RX10, "glowOf", "(LNightValley$Place;)I"⟩
abbrev cX10_isShaded : ByteArray := prog_1_method_51_code
def yX10_isShaded : MethodName := ⟨RX10, "isShaded", "(LNightValley$Place;LNightValley$Place;)Z"⟩
abbrev cX10_planCost : ByteArray := prog_1_method_52_code
def yX10_planCost : MethodName := ⟨RX10, "planCost", "(LNightValley$Lamp;)I"⟩
def RX11 : String := "NightValleyModel"
def TX11 : u_T := fun k => match k with
  | _ => ("", "", "", false)
def tyX11 : Nat → FieldType := fun k => match k with
  | _ => .int
abbrev wsX110 : List Cond := u_ws RX11 TX11 0
theorem nmX11 : ∀ a, a < 0 → ∀ b, b < 0 → a ≠ b → (TX11 a).2.1 ≠ (TX11 b).2.1 := by decide +kernel
theorem tyX11_ok : ∀ k, k < 0 → parseFieldDescriptor (TX11 k).2.2.1 = some (tyX11 k) := by decide +kernel
def RJx145de : String := "java/io/Serializable"
def TJx145de : u_T := fun k => match k with
  | _ => ("", "", "", false)
def tyJx145de : Nat → FieldType := fun k => match k with
  | _ => .int
abbrev wsJx145de0 : List Cond := u_ws RJx145de TJx145de 0
theorem nmJx145de : ∀ a, a < 0 → ∀ b, b < 0 → a ≠ b → (TJx145de a).2.1 ≠ (TJx145de b).2.1 := by decide +kernel
theorem tyJx145de_ok : ∀ k, k < 0 → parseFieldDescriptor (TJx145de k).2.2.1 = some (tyJx145de k) := by decide +kernel
def RJx8e188 : String := "java/lang/Cloneable"
def TJx8e188 : u_T := fun k => match k with
  | _ => ("", "", "", false)
def tyJx8e188 : Nat → FieldType := fun k => match k with
  | _ => .int
abbrev wsJx8e1880 : List Cond := u_ws RJx8e188 TJx8e188 0
theorem nmJx8e188 : ∀ a, a < 0 → ∀ b, b < 0 → a ≠ b → (TJx8e188 a).2.1 ≠ (TJx8e188 b).2.1 := by decide +kernel
theorem tyJx8e188_ok : ∀ k, k < 0 → parseFieldDescriptor (TJx8e188 k).2.2.1 = some (tyJx8e188 k) := by decide +kernel
def RJxab1ab : String := "java/lang/Iterable"
def TJxab1ab : u_T := fun k => match k with
  | _ => ("", "", "", false)
def tyJxab1ab : Nat → FieldType := fun k => match k with
  | _ => .int
abbrev wsJxab1ab0 : List Cond := u_ws RJxab1ab TJxab1ab 0
theorem nmJxab1ab : ∀ a, a < 0 → ∀ b, b < 0 → a ≠ b → (TJxab1ab a).2.1 ≠ (TJxab1ab b).2.1 := by decide +kernel
theorem tyJxab1ab_ok : ∀ k, k < 0 → parseFieldDescriptor (TJxab1ab k).2.2.1 = some (tyJxab1ab k) := by decide +kernel
def RJ9 : String := "java/lang/Math"
def TJ9 : u_T := fun k => match k with
  | _ => ("", "", "", false)
def tyJ9 : Nat → FieldType := fun k => match k with
  | _ => .int
abbrev wsJ90 : List Cond := u_ws RJ9 TJ9 0
theorem nmJ9 : ∀ a, a < 0 → ∀ b, b < 0 → a ≠ b → (TJ9 a).2.1 ≠ (TJ9 b).2.1 := by decide +kernel
theorem tyJ9_ok : ∀ k, k < 0 → parseFieldDescriptor (TJ9 k).2.2.1 = some (tyJ9 k) := by decide +kernel
abbrev cJ9_abs_0f7a4 : ByteArray := prog_21_method_59_code
def yJ9_abs_0f7a4 : MethodName := ⟨RJ9, "abs", "(I)I"⟩
abbrev cJ9_max_7cf53 : ByteArray := prog_21_method_65_code
def yJ9_max_7cf53 : MethodName := ⟨RJ9, "max", "(II)I"⟩
abbrev cJ9_min_7cf53 : ByteArray := prog_21_method_69_code
def yJ9_min_7cf53 : MethodName := ⟨RJ9, "min", "(II)I"⟩
def RJ10 : String := "java/lang/System"
def TJ10 : u_T := fun k => match k with
  | _ => ("", "", "", false)
def tyJ10 : Nat → FieldType := fun k => match k with
  | _ => .int
abbrev wsJ100 : List Cond := u_ws RJ10 TJ10 0
theorem nmJ10 : ∀ a, a < 0 → ∀ b, b < 0 → a ≠ b → (TJ10 a).2.1 ≠ (TJ10 b).2.1 := by decide +kernel
theorem tyJ10_ok : ∀ k, k < 0 → parseFieldDescriptor (TJ10 k).2.2.1 = some (tyJ10 k) := by decide +kernel
def RJxa1e45 : String := "java/util/AbstractCollection"
def TJxa1e45 : u_T := fun k => match k with
  | _ => ("", "", "", false)
def tyJxa1e45 : Nat → FieldType := fun k => match k with
  | _ => .int
abbrev wsJxa1e450 : List Cond := u_ws RJxa1e45 TJxa1e45 0
theorem nmJxa1e45 : ∀ a, a < 0 → ∀ b, b < 0 → a ≠ b → (TJxa1e45 a).2.1 ≠ (TJxa1e45 b).2.1 := by decide +kernel
theorem tyJxa1e45_ok : ∀ k, k < 0 → parseFieldDescriptor (TJxa1e45 k).2.2.1 = some (tyJxa1e45 k) := by decide +kernel
abbrev cJxa1e45_init_da8c8 : ByteArray := prog_25_method_1_code
def yJxa1e45_init_da8c8 : MethodName := ⟨RJxa1e45, "<init>", "()V"⟩
def RJxc12de : String := "java/util/AbstractList"
def TJxc12de : u_T := fun k => match k with
  | _ => ("", "", "", false)
def tyJxc12de : Nat → FieldType := fun k => match k with
  | _ => .int
abbrev wsJxc12de0 : List Cond := u_ws RJxc12de TJxc12de 0
theorem nmJxc12de : ∀ a, a < 0 → ∀ b, b < 0 → a ≠ b → (TJxc12de a).2.1 ≠ (TJxc12de b).2.1 := by decide +kernel
theorem tyJxc12de_ok : ∀ k, k < 0 → parseFieldDescriptor (TJxc12de k).2.2.1 = some (tyJxc12de k) := by decide +kernel
abbrev cJxc12de_init_da8c8 : ByteArray := prog_26_method_1_code
def yJxc12de_init_da8c8 : MethodName := ⟨RJxc12de, "<init>", "()V"⟩
def RJx4a65c : String := "java/util/ArrayList"
def TJx4a65c : u_T := fun k => match k with
  | 0 => ("java/util/AbstractList", "modCount", "I", false)
  | 1 => ("java/util/ArrayList", "elementData", "[Ljava/lang/Object;", false)
  | _ => ("java/util/ArrayList", "size", "I", false)
def tyJx4a65c : Nat → FieldType := fun k => match k with
  | 0 => .int
  | 1 => .array (.object "java/lang/Object")
  | _ => .int
abbrev wsJx4a65c0 : List Cond := u_ws RJx4a65c TJx4a65c 3
theorem nmJx4a65c : ∀ a, a < 3 → ∀ b, b < 3 → a ≠ b → (TJx4a65c a).2.1 ≠ (TJx4a65c b).2.1 := by decide +kernel
theorem tyJx4a65c_ok : ∀ k, k < 3 → parseFieldDescriptor (TJx4a65c k).2.2.1 = some (tyJx4a65c k) := by decide +kernel
abbrev cJx4a65c_init_da8c8 : ByteArray := prog_27_method_2_code
def yJx4a65c_init_da8c8 : MethodName := ⟨RJx4a65c, "<init>", "()V"⟩
abbrev cJx4a65c_grow_92f84 : ByteArray := prog_27_method_6_code
def yJx4a65c_grow_92f84 : MethodName := ⟨RJx4a65c, "grow", "(I)[Ljava/lang/Object;"⟩
abbrev cJx4a65c_grow_d5877 : ByteArray := prog_27_method_7_code
def yJx4a65c_grow_d5877 : MethodName := ⟨RJx4a65c, "grow", "()[Ljava/lang/Object;"⟩
abbrev cJx4a65c_size_8abf5 : ByteArray := prog_27_method_8_code
def yJx4a65c_size_8abf5 : MethodName := ⟨RJx4a65c, "size", "()I"⟩
abbrev cJx4a65c_elementData_915e3 : ByteArray := prog_27_method_18_code
def yJx4a65c_elementData_915e3 : MethodName := ⟨RJx4a65c, "elementData", "(I)Ljava/lang/Object;"⟩
abbrev cJx4a65c_get_915e3 : ByteArray := prog_27_method_20_code
def yJx4a65c_get_915e3 : MethodName := ⟨RJx4a65c, "get", "(I)Ljava/lang/Object;"⟩
abbrev cJx4a65c_add_72be8 : ByteArray := prog_27_method_24_code
def yJx4a65c_add_72be8 : MethodName := ⟨RJx4a65c, "add", "(Ljava/lang/Object;[Ljava/lang/Object;I)V"⟩
abbrev cJx4a65c_add_9ea2d : ByteArray := prog_27_method_25_code
def yJx4a65c_add_9ea2d : MethodName := ⟨RJx4a65c, "add", "(Ljava/lang/Object;)Z"⟩
abbrev cJx4a65c_remove_915e3 : ByteArray := prog_27_method_29_code
def yJx4a65c_remove_915e3 : MethodName := ⟨RJx4a65c, "remove", "(I)Ljava/lang/Object;"⟩
abbrev cJx4a65c_fastRemove_b59b0 : ByteArray := prog_27_method_39_code
def yJx4a65c_fastRemove_b59b0 : MethodName := ⟨RJx4a65c, "fastRemove", "([Ljava/lang/Object;I)V"⟩
def RJ7 : String := "java/util/Arrays"
def TJ7 : u_T := fun k => match k with
  | _ => ("", "", "", false)
def tyJ7 : Nat → FieldType := fun k => match k with
  | _ => .int
abbrev wsJ70 : List Cond := u_ws RJ7 TJ7 0
theorem nmJ7 : ∀ a, a < 0 → ∀ b, b < 0 → a ≠ b → (TJ7 a).2.1 ≠ (TJ7 b).2.1 := by decide +kernel
theorem tyJ7_ok : ∀ k, k < 0 → parseFieldDescriptor (TJ7 k).2.2.1 = some (tyJ7 k) := by decide +kernel
abbrev cJ7_fill_53178 : ByteArray := prog_28_method_103_code
def yJ7_fill_53178 : MethodName := ⟨RJ7, "fill", "([II)V"⟩
abbrev cJ7_copyOf_1904c : ByteArray := prog_28_method_119_code
def yJ7_copyOf_1904c : MethodName := ⟨RJ7, "copyOf", "([Ljava/lang/Object;I)[Ljava/lang/Object;"⟩
abbrev cJ7_copyOf_6403c : ByteArray := prog_28_method_120_code
def yJ7_copyOf_6403c : MethodName := ⟨RJ7, "copyOf", "([Ljava/lang/Object;ILjava/lang/Class;)[Ljava/lang/Object;"⟩
def RJx5ef63 : String := "java/util/Collection"
def TJx5ef63 : u_T := fun k => match k with
  | _ => ("", "", "", false)
def tyJx5ef63 : Nat → FieldType := fun k => match k with
  | _ => .int
abbrev wsJx5ef630 : List Cond := u_ws RJx5ef63 TJx5ef63 0
theorem nmJx5ef63 : ∀ a, a < 0 → ∀ b, b < 0 → a ≠ b → (TJx5ef63 a).2.1 ≠ (TJx5ef63 b).2.1 := by decide +kernel
theorem tyJx5ef63_ok : ∀ k, k < 0 → parseFieldDescriptor (TJx5ef63 k).2.2.1 = some (tyJx5ef63 k) := by decide +kernel
def RJxbd725 : String := "java/util/List"
def TJxbd725 : u_T := fun k => match k with
  | _ => ("", "", "", false)
def tyJxbd725 : Nat → FieldType := fun k => match k with
  | _ => .int
abbrev wsJxbd7250 : List Cond := u_ws RJxbd725 TJxbd725 0
theorem nmJxbd725 : ∀ a, a < 0 → ∀ b, b < 0 → a ≠ b → (TJxbd725 a).2.1 ≠ (TJxbd725 b).2.1 := by decide +kernel
theorem tyJxbd725_ok : ∀ k, k < 0 → parseFieldDescriptor (TJxbd725 k).2.2.1 = some (tyJxbd725 k) := by decide +kernel
def RJ15 : String := "java/util/Objects"
def TJ15 : u_T := fun k => match k with
  | _ => ("", "", "", false)
def tyJ15 : Nat → FieldType := fun k => match k with
  | _ => .int
abbrev wsJ150 : List Cond := u_ws RJ15 TJ15 0
theorem nmJ15 : ∀ a, a < 0 → ∀ b, b < 0 → a ≠ b → (TJ15 a).2.1 ≠ (TJ15 b).2.1 := by decide +kernel
theorem tyJ15_ok : ∀ k, k < 0 → parseFieldDescriptor (TJ15 k).2.2.1 = some (tyJ15 k) := by decide +kernel
abbrev cJ15_checkIndex_7cf53 : ByteArray := prog_31_method_17_code
def yJ15_checkIndex_7cf53 : MethodName := ⟨RJ15, "checkIndex", "(II)I"⟩
def RJxf0a74 : String := "java/util/RandomAccess"
def TJxf0a74 : u_T := fun k => match k with
  | _ => ("", "", "", false)
def tyJxf0a74 : Nat → FieldType := fun k => match k with
  | _ => .int
abbrev wsJxf0a740 : List Cond := u_ws RJxf0a74 TJxf0a74 0
theorem nmJxf0a74 : ∀ a, a < 0 → ∀ b, b < 0 → a ≠ b → (TJxf0a74 a).2.1 ≠ (TJxf0a74 b).2.1 := by decide +kernel
theorem tyJxf0a74_ok : ∀ k, k < 0 → parseFieldDescriptor (TJxf0a74 k).2.2.1 = some (tyJxf0a74 k) := by decide +kernel
def RJxa66e6 : String := "java/util/SequencedCollection"
def TJxa66e6 : u_T := fun k => match k with
  | _ => ("", "", "", false)
def tyJxa66e6 : Nat → FieldType := fun k => match k with
  | _ => .int
abbrev wsJxa66e60 : List Cond := u_ws RJxa66e6 TJxa66e6 0
theorem nmJxa66e6 : ∀ a, a < 0 → ∀ b, b < 0 → a ≠ b → (TJxa66e6 a).2.1 ≠ (TJxa66e6 b).2.1 := by decide +kernel
theorem tyJxa66e6_ok : ∀ k, k < 0 → parseFieldDescriptor (TJxa66e6 k).2.2.1 = some (tyJxa66e6 k) := by decide +kernel
def RJ8 : String := "jdk/internal/util/ArraysSupport"
def TJ8 : u_T := fun k => match k with
  | _ => ("", "", "", false)
def tyJ8 : Nat → FieldType := fun k => match k with
  | _ => .int
abbrev wsJ80 : List Cond := u_ws RJ8 TJ8 0
theorem nmJ8 : ∀ a, a < 0 → ∀ b, b < 0 → a ≠ b → (TJ8 a).2.1 ≠ (TJ8 b).2.1 := by decide +kernel
theorem tyJ8_ok : ∀ k, k < 0 → parseFieldDescriptor (TJ8 k).2.2.1 = some (tyJ8 k) := by decide +kernel
abbrev cJ8_newLength_cabcc : ByteArray := prog_34_method_27_code
def yJ8_newLength_cabcc : MethodName := ⟨RJ8, "newLength", "(III)I"⟩
abbrev cJ8_hugeLength_7cf53 : ByteArray := prog_34_method_28_code
def yJ8_hugeLength_7cf53 : MethodName := ⟨RJ8, "hugeLength", "(II)I"⟩
def RJ3 : String := "jdk/internal/util/Preconditions"
def TJ3 : u_T := fun k => match k with
  | _ => ("", "", "", false)
def tyJ3 : Nat → FieldType := fun k => match k with
  | _ => .int
abbrev wsJ30 : List Cond := u_ws RJ3 TJ3 0
theorem nmJ3 : ∀ a, a < 0 → ∀ b, b < 0 → a ≠ b → (TJ3 a).2.1 ≠ (TJ3 b).2.1 := by decide +kernel
theorem tyJ3_ok : ∀ k, k < 0 → parseFieldDescriptor (TJ3 k).2.2.1 = some (tyJ3 k) := by decide +kernel
abbrev cJ3_checkIndex_8e157 : ByteArray := prog_35_method_11_code
def yJ3_checkIndex_8e157 : MethodName := ⟨RJ3, "checkIndex", "(IILjava/util/function/BiFunction;)I"⟩
def RL : String := "NightValleyLaw"
abbrev cL_part : ByteArray := method_2_code
def yL_part : MethodName := ⟨RL, "part", "([III)I"⟩
abbrev cL_does : ByteArray := method_3_code
def yL_does : MethodName := ⟨RL, "does", "(LNightValley;IIIIII)I"⟩
abbrev cL_ruled : ByteArray := method_4_code
def yL_ruled : MethodName := ⟨RL, "ruled", "(LNightValley;IIII)I"⟩
abbrev cL_timed : ByteArray := method_5_code
def yL_timed : MethodName := ⟨RL, "timed", "(LNightValley;III)I"⟩
abbrev cL_trended : ByteArray := method_6_code
def yL_trended : MethodName := ⟨RL, "trended", "(LNightValley;I)J"⟩
abbrev cL_size : ByteArray := method_7_code
def yL_size : MethodName := ⟨RL, "size", "(I)I"⟩
abbrev cL_burns : ByteArray := method_8_code
def yL_burns : MethodName := ⟨RL, "burns", "([I[I[I[I[II)Z"⟩
abbrev cL_light : ByteArray := method_9_code
def yL_light : MethodName := ⟨RL, "light", "([II)I"⟩
abbrev cL_isShaded : ByteArray := method_10_code
def yL_isShaded : MethodName := ⟨RL, "isShaded", "([III)Z"⟩
abbrev cL_apart : ByteArray := method_11_code
def yL_apart : MethodName := ⟨RL, "apart", "(II)I"⟩
abbrev cL_gives : ByteArray := method_12_code
def yL_gives : MethodName := ⟨RL, "gives", "([I[I[I[I[III)I"⟩
abbrev cL_glow : ByteArray := method_13_code
def yL_glow : MethodName := ⟨RL, "glow", "([I[I[I[I[III)I"⟩
abbrev cL_ground : ByteArray := method_14_code
def yL_ground : MethodName := ⟨RL, "ground", "([I[I[I[I[II)I"⟩
abbrev cL_isUnlawful : ByteArray := method_15_code
def yL_isUnlawful : MethodName := ⟨RL, "isUnlawful", "([I[I[II)Z"⟩
abbrev cL_moon : ByteArray := method_16_code
def yL_moon : MethodName := ⟨RL, "moon", "(I)I"⟩
abbrev cL_isSo : ByteArray := method_17_code
def yL_isSo : MethodName := ⟨RL, "isSo", "(LNightValley;[I[I[I[I[I[I[I[III)Z"⟩
abbrev cL_isTold : ByteArray := method_18_code
def yL_isTold : MethodName := ⟨RL, "isTold", "(LNightValley;[I[I[I[I[IIII)Z"⟩
abbrev cL_isLit : ByteArray := method_19_code
def yL_isLit : MethodName := ⟨RL, "isLit", "(LNightValley;[I[I[I[I[I[IIII)Z"⟩
abbrev cL_isRead : ByteArray := method_20_code
def yL_isRead : MethodName := ⟨RL, "isRead", "(LNightValley;[I[I[I[I[I[I[IIII)Z"⟩
abbrev cL_law : ByteArray := code
def yL_law : MethodName := ⟨RL, "law", "([I)Z"⟩
abbrev vwCl : List vw_C := [(RJx4a65c, TJx4a65c, 3), (RX0, TX0, 3), (RX1, TX1, 3), (RX2, TX2, 12), (RX3, TX3, 5), (RX4, TX4, 4), (RX5, TX5, 2), (RX5, TX5, 2), (RX7, TX7, 5), (RX8, TX8, 4), (RX9, TX9, 6), (RX10, TX10, 11)]

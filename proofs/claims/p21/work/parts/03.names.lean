/-! ===== BEGIN printed: names, fields, word lists, decode rows ===== -/
def RX0 : String := "LoafMarks$Baker"
def TX0 : u_T := fun k => match k with
  | 0 => ("LoafMarks$Baker", "storeNumber", "I", false)
  | 1 => ("LoafMarks$Baker", "mark", "I", false)
  | 2 => ("LoafMarks$Baker", "ration", "I", false)
  | 3 => ("LoafMarks$Baker", "atHand", "I", false)
  | 4 => ("LoafMarks$Baker", "weight", "I", false)
  | 5 => ("LoafMarks$Baker", "shelf", "I", false)
  | 6 => ("LoafMarks$Baker", "sold", "I", false)
  | _ => ("LoafMarks$Baker", "barred", "Z", false)
def tyX0 : Nat → FieldType := fun k => match k with
  | 0 => .int
  | 1 => .int
  | 2 => .int
  | 3 => .int
  | 4 => .int
  | 5 => .int
  | 6 => .int
  | _ => .boolean
abbrev wsX00 : List Cond := u_ws RX0 TX0 8
theorem nmX0 : ∀ a, a < 8 → ∀ b, b < 8 → a ≠ b → (TX0 a).2.1 ≠ (TX0 b).2.1 := by decide +kernel
theorem tyX0_ok : ∀ k, k < 8 → parseFieldDescriptor (TX0 k).2.2.1 = some (tyX0 k) := by decide +kernel
abbrev cX0_init : ByteArray := prog_2_method_1_code
def yX0_init : MethodName := ⟨RX0, "<init>", "(IIII)V"⟩
abbrev cX0_becomeLike : ByteArray := prog_2_method_2_code
def yX0_becomeLike : MethodName := ⟨RX0, "becomeLike", "(LLoafMarks$Baker;)V"⟩
abbrev cX0_bakesLight : ByteArray := prog_2_method_3_code
def yX0_bakesLight : MethodName := ⟨RX0, "bakesLight", "()Z"⟩
abbrev cX0_bake : ByteArray := prog_2_method_4_code
def yX0_bake : MethodName := ⟨RX0, "bake", "()V"⟩
abbrev cX0_sell : ByteArray := prog_2_method_5_code
def yX0_sell : MethodName := ⟨RX0, "sell", "(I)I"⟩
abbrev cX0_inspect : ByteArray := prog_2_method_6_code
def yX0_inspect : MethodName := ⟨RX0, "inspect", "()I"⟩
abbrev cX0_forgive : ByteArray := prog_2_method_7_code
def yX0_forgive : MethodName := ⟨RX0, "forgive", "()Z"⟩
abbrev cX0_fact : ByteArray := prog_2_method_8_code
def yX0_fact : MethodName := ⟨RX0, "fact", "(I)I"⟩
def RX1 : String := "LoafMarks$Store"
def TX1 : u_T := fun k => match k with
  | 0 => ("LoafMarks$Store", "flour", "I", false)
  | 1 => ("LoafMarks$Store", "weevils", "I", false)
  | _ => ("LoafMarks$Store", "eaten", "I", false)
def tyX1 : Nat → FieldType := fun k => match k with
  | 0 => .int
  | 1 => .int
  | _ => .int
abbrev wsX10 : List Cond := u_ws RX1 TX1 3
theorem nmX1 : ∀ a, a < 3 → ∀ b, b < 3 → a ≠ b → (TX1 a).2.1 ≠ (TX1 b).2.1 := by decide +kernel
theorem tyX1_ok : ∀ k, k < 3 → parseFieldDescriptor (TX1 k).2.2.1 = some (tyX1 k) := by decide +kernel
abbrev cX1_init : ByteArray := prog_3_method_1_code
def yX1_init : MethodName := ⟨RX1, "<init>", "(II)V"⟩
abbrev cX1_becomeLike : ByteArray := prog_3_method_2_code
def yX1_becomeLike : MethodName := ⟨RX1, "becomeLike", "(LLoafMarks$Store;)V"⟩
abbrev cX1_takeIn : ByteArray := prog_3_method_3_code
def yX1_takeIn : MethodName := ⟨RX1, "takeIn", "(I)I"⟩
abbrev cX1_giveOut : ByteArray := prog_3_method_4_code
def yX1_giveOut : MethodName := ⟨RX1, "giveOut", "(I)I"⟩
abbrev cX1_feedWeevils : ByteArray := prog_3_method_5_code
def yX1_feedWeevils : MethodName := ⟨RX1, "feedWeevils", "()V"⟩
abbrev cX1_smokeOut : ByteArray := prog_3_method_6_code
def yX1_smokeOut : MethodName := ⟨RX1, "smokeOut", "()I"⟩
def RX2 : String := "LoafMarks$Town"
def TX2 : u_T := fun k => match k with
  | 0 => ("LoafMarks$Town", "gate", "[I", true)
  | 1 => ("LoafMarks$Town", "stores", "[LLoafMarks$Store;", true)
  | 2 => ("LoafMarks$Town", "bakers", "[LLoafMarks$Baker;", true)
  | 3 => ("LoafMarks$Town", "hour", "I", false)
  | 4 => ("LoafMarks$Town", "people", "I", false)
  | 5 => ("LoafMarks$Town", "bought", "I", false)
  | 6 => ("LoafMarks$Town", "light", "I", false)
  | 7 => ("LoafMarks$Town", "hungry", "I", false)
  | _ => ("LoafMarks$Town", "lost", "I", false)
def tyX2 : Nat → FieldType := fun k => match k with
  | 0 => .array .int
  | 1 => .array (.object "LoafMarks$Store")
  | 2 => .array (.object "LoafMarks$Baker")
  | 3 => .int
  | 4 => .int
  | 5 => .int
  | 6 => .int
  | 7 => .int
  | _ => .int
abbrev wsX20 : List Cond := u_ws RX2 TX2 9
theorem nmX2 : ∀ a, a < 9 → ∀ b, b < 9 → a ≠ b → (TX2 a).2.1 ≠ (TX2 b).2.1 := by decide +kernel
theorem tyX2_ok : ∀ k, k < 9 → parseFieldDescriptor (TX2 k).2.2.1 = some (tyX2 k) := by decide +kernel
abbrev cX2_init : ByteArray := prog_4_method_1_code
def yX2_init : MethodName := ⟨RX2, "<init>", "()V"⟩
abbrev cX2_becomeLike : ByteArray := prog_4_method_2_code
def yX2_becomeLike : MethodName := ⟨RX2, "becomeLike", "(LLoafMarks$Town;)V"⟩
abbrev cX2_copyStores : ByteArray := prog_4_method_3_code
def yX2_copyStores : MethodName := ⟨RX2, "copyStores", "(LLoafMarks$Town;)V"⟩
abbrev cX2_copyBakers : ByteArray := prog_4_method_4_code
def yX2_copyBakers : MethodName := ⟨RX2, "copyBakers", "(LLoafMarks$Town;)V"⟩
abbrev cX2_gateAt : ByteArray := prog_4_method_5_code
def yX2_gateAt : MethodName := ⟨RX2, "gateAt", "(I)I"⟩
abbrev cX2_changeGate : ByteArray := prog_4_method_6_code
def yX2_changeGate : MethodName := ⟨RX2, "changeGate", "(II)I"⟩
abbrev cX2_storeAt : ByteArray := prog_4_method_7_code
def yX2_storeAt : MethodName := ⟨RX2, "storeAt", "(I)LLoafMarks$Store;"⟩
abbrev cX2_bakerAt : ByteArray := prog_4_method_8_code
def yX2_bakerAt : MethodName := ⟨RX2, "bakerAt", "(I)LLoafMarks$Baker;"⟩
abbrev cX2_addStore : ByteArray := prog_4_method_9_code
def yX2_addStore : MethodName := ⟨RX2, "addStore", "(II)I"⟩
abbrev cX2_addBaker : ByteArray := prog_4_method_10_code
def yX2_addBaker : MethodName := ⟨RX2, "addBaker", "(IIII)I"⟩
abbrev cX2_bakerWithMark : ByteArray := prog_4_method_11_code
def yX2_bakerWithMark : MethodName := ⟨RX2, "bakerWithMark", "(I)I"⟩
abbrev cX2_goThrough : ByteArray := prog_4_method_12_code
def yX2_goThrough : MethodName := ⟨RX2, "goThrough", "(I)I"⟩
abbrev cX2_goThroughHour : ByteArray := prog_4_method_13_code
def yX2_goThroughHour : MethodName := ⟨RX2, "goThroughHour", "()I"⟩
abbrev cX2_hourOfDay : ByteArray := prog_4_method_14_code
def yX2_hourOfDay : MethodName := ⟨RX2, "hourOfDay", "()I"⟩
abbrev cX2_unloadCarts : ByteArray := prog_4_method_15_code
def yX2_unloadCarts : MethodName := ⟨RX2, "unloadCarts", "(I)V"⟩
abbrev cX2_emptiestStore : ByteArray := prog_4_method_16_code
def yX2_emptiestStore : MethodName := ⟨RX2, "emptiestStore", "()LLoafMarks$Store;"⟩
abbrev cX2_dealRations : ByteArray := prog_4_method_17_code
def yX2_dealRations : MethodName := ⟨RX2, "dealRations", "()V"⟩
abbrev cX2_feedAllWeevils : ByteArray := prog_4_method_18_code
def yX2_feedAllWeevils : MethodName := ⟨RX2, "feedAllWeevils", "()V"⟩
abbrev cX2_bakeAll : ByteArray := prog_4_method_19_code
def yX2_bakeAll : MethodName := ⟨RX2, "bakeAll", "()V"⟩
abbrev cX2_sellAtNoon : ByteArray := prog_4_method_20_code
def yX2_sellAtNoon : MethodName := ⟨RX2, "sellAtNoon", "()I"⟩
abbrev cX2_flourOfAll : ByteArray := prog_4_method_21_code
def yX2_flourOfAll : MethodName := ⟨RX2, "flourOfAll", "()I"⟩
abbrev cX2_weevilsOfAll : ByteArray := prog_4_method_22_code
def yX2_weevilsOfAll : MethodName := ⟨RX2, "weevilsOfAll", "()I"⟩
abbrev cX2_loavesOfAll : ByteArray := prog_4_method_23_code
def yX2_loavesOfAll : MethodName := ⟨RX2, "loavesOfAll", "()I"⟩
abbrev cX2_bakersOfStore : ByteArray := prog_4_method_24_code
def yX2_bakersOfStore : MethodName := ⟨RX2, "bakersOfStore", "(I)I"⟩
abbrev cX2_barredBakers : ByteArray := prog_4_method_25_code
def yX2_barredBakers : MethodName := ⟨RX2, "barredBakers", "()I"⟩
abbrev cX2_storeFact : ByteArray := prog_4_method_26_code
def yX2_storeFact : MethodName := ⟨RX2, "storeFact", "(II)I"⟩
abbrev cX2_fact : ByteArray := prog_4_method_27_code
def yX2_fact : MethodName := ⟨RX2, "fact", "(I)I"⟩
def RX3 : String := "LoafMarks"
def TX3 : u_T := fun k => match k with
  | 0 => ("LoafMarks", "town", "LLoafMarks$Town;", true)
  | _ => ("LoafMarks", "trial", "LLoafMarks$Town;", true)
def tyX3 : Nat → FieldType := fun k => match k with
  | 0 => .object "LoafMarks$Town"
  | _ => .object "LoafMarks$Town"
abbrev wsX30 : List Cond := u_ws RX3 TX3 2
theorem nmX3 : ∀ a, a < 2 → ∀ b, b < 2 → a ≠ b → (TX3 a).2.1 ≠ (TX3 b).2.1 := by decide +kernel
theorem tyX3_ok : ∀ k, k < 2 → parseFieldDescriptor (TX3 k).2.2.1 = some (tyX3 k) := by decide +kernel
abbrev cX3_init : ByteArray := prog_1_method_1_code
def yX3_init : MethodName := ⟨RX3, "<init>", "()V"⟩
abbrev cX3_setPeople : ByteArray := prog_1_method_2_code
def yX3_setPeople : MethodName := ⟨RX3, "setPeople", "(I)I"⟩
abbrev cX3_setGate : ByteArray := prog_1_method_3_code
def yX3_setGate : MethodName := ⟨RX3, "setGate", "(II)I"⟩
abbrev cX3_open : ByteArray := prog_1_method_4_code
def yX3_open : MethodName := ⟨RX3, "open", "(II)I"⟩
abbrev cX3_smoke : ByteArray := prog_1_method_5_code
def yX3_smoke : MethodName := ⟨RX3, "smoke", "(I)I"⟩
abbrev cX3_swear : ByteArray := prog_1_method_6_code
def yX3_swear : MethodName := ⟨RX3, "swear", "(IIII)I"⟩
abbrev cX3_deal : ByteArray := prog_1_method_7_code
def yX3_deal : MethodName := ⟨RX3, "deal", "(II)I"⟩
abbrev cX3_weigh : ByteArray := prog_1_method_8_code
def yX3_weigh : MethodName := ⟨RX3, "weigh", "(I)I"⟩
abbrev cX3_pardon : ByteArray := prog_1_method_9_code
def yX3_pardon : MethodName := ⟨RX3, "pardon", "(I)Z"⟩
abbrev cX3_store : ByteArray := prog_1_method_10_code
def yX3_store : MethodName := ⟨RX3, "store", "(II)I"⟩
abbrev cX3_baker : ByteArray := prog_1_method_11_code
def yX3_baker : MethodName := ⟨RX3, "baker", "(II)I"⟩
abbrev cX3_whose : ByteArray := prog_1_method_12_code
def yX3_whose : MethodName := ⟨RX3, "whose", "(I)I"⟩
abbrev cX3_count : ByteArray := prog_1_method_13_code
def yX3_count : MethodName := ⟨RX3, "count", "(I)I"⟩
abbrev cX3_pass : ByteArray := prog_1_method_14_code
def yX3_pass : MethodName := ⟨RX3, "pass", "(I)I"⟩
abbrev cX3_lasts : ByteArray := prog_1_method_15_code
def yX3_lasts : MethodName := ⟨RX3, "lasts", "()I"⟩
abbrev cX3_foresee : ByteArray := prog_1_method_16_code
def yX3_foresee : MethodName := ⟨RX3, "foresee", "(II)I"⟩
abbrev cX3_share : ByteArray := prog_1_method_18_code
def yX3_share : MethodName := ⟨RX3, "share", "()D"⟩
abbrev cX3_isWithin : ByteArray := prog_1_method_20_code
def yX3_isWithin : MethodName := ⟨RX3, "isWithin", "(III)Z"⟩
def RX4 : String := "LoafMarksLaw$Sim"
def TX4 : u_T := fun k => match k with
  | 0 => ("LoafMarksLaw$Sim", "people", "I", false)
  | 1 => ("LoafMarksLaw$Sim", "gate", "[I", false)
  | 2 => ("LoafMarksLaw$Sim", "stores", "[[I", false)
  | 3 => ("LoafMarksLaw$Sim", "bakers", "[[I", false)
  | 4 => ("LoafMarksLaw$Sim", "hour", "I", false)
  | 5 => ("LoafMarksLaw$Sim", "all", "I", false)
  | 6 => ("LoafMarksLaw$Sim", "light", "I", false)
  | 7 => ("LoafMarksLaw$Sim", "hungry", "I", false)
  | _ => ("LoafMarksLaw$Sim", "lost", "I", false)
def tyX4 : Nat → FieldType := fun k => match k with
  | 0 => .int
  | 1 => .array .int
  | 2 => .array (.array .int)
  | 3 => .array (.array .int)
  | 4 => .int
  | 5 => .int
  | 6 => .int
  | 7 => .int
  | _ => .int
abbrev wsX40 : List Cond := u_ws RX4 TX4 9
theorem nmX4 : ∀ a, a < 9 → ∀ b, b < 9 → a ≠ b → (TX4 a).2.1 ≠ (TX4 b).2.1 := by decide +kernel
theorem tyX4_ok : ∀ k, k < 9 → parseFieldDescriptor (TX4 k).2.2.1 = some (tyX4 k) := by decide +kernel
abbrev cX4_init : ByteArray := prog_6_method_1_code
def yX4_init : MethodName := ⟨RX4, "<init>", "()V"⟩
abbrev cX4_more : ByteArray := prog_6_method_2_code
def yX4_more : MethodName := ⟨RX4, "more", "([[I[I)[[I"⟩
abbrev cX4_owner : ByteArray := prog_6_method_4_code
def yX4_owner : MethodName := ⟨RX4, "owner", "(I)I"⟩
abbrev cX4_pass : ByteArray := prog_6_method_5_code
def yX4_pass : MethodName := ⟨RX4, "pass", "()I"⟩
abbrev cX4_stored : ByteArray := prog_6_method_6_code
def yX4_stored : MethodName := ⟨RX4, "stored", "(I)I"⟩
abbrev cX4_baked : ByteArray := prog_6_method_7_code
def yX4_baked : MethodName := ⟨RX4, "baked", "(I)I"⟩
abbrev cX4_isSame : ByteArray := prog_6_method_8_code
def yX4_isSame : MethodName := ⟨RX4, "isSame", "(LLoafMarks;)Z"⟩
def RX5 : String := "LoafMarksModel"
def TX5 : u_T := fun k => match k with
  | _ => ("", "", "", false)
def tyX5 : Nat → FieldType := fun k => match k with
  | _ => .int
abbrev wsX50 : List Cond := u_ws RX5 TX5 0
theorem nmX5 : ∀ a, a < 0 → ∀ b, b < 0 → a ≠ b → (TX5 a).2.1 ≠ (TX5 b).2.1 := by decide +kernel
theorem tyX5_ok : ∀ k, k < 0 → parseFieldDescriptor (TX5 k).2.2.1 = some (tyX5 k) := by decide +kernel
def RJ9 : String := "java/lang/Math"
def TJ9 : u_T := fun k => match k with
  | _ => ("", "", "", false)
def tyJ9 : Nat → FieldType := fun k => match k with
  | _ => .int
abbrev wsJ90 : List Cond := u_ws RJ9 TJ9 0
theorem nmJ9 : ∀ a, a < 0 → ∀ b, b < 0 → a ≠ b → (TJ9 a).2.1 ≠ (TJ9 b).2.1 := by decide +kernel
theorem tyJ9_ok : ∀ k, k < 0 → parseFieldDescriptor (TJ9 k).2.2.1 = some (tyJ9 k) := by decide +kernel
abbrev cJ9_floorMod_7cf53 : ByteArray := prog_12_method_50_code
def yJ9_floorMod_7cf53 : MethodName := ⟨RJ9, "floorMod", "(II)I"⟩
abbrev cJ9_max_7cf53 : ByteArray := prog_12_method_65_code
def yJ9_max_7cf53 : MethodName := ⟨RJ9, "max", "(II)I"⟩
abbrev cJ9_min_7cf53 : ByteArray := prog_12_method_69_code
def yJ9_min_7cf53 : MethodName := ⟨RJ9, "min", "(II)I"⟩
def RJ0 : String := "java/lang/String"
def TJ0 : u_T := fun k => match k with
  | _ => ("", "", "", false)
def tyJ0 : Nat → FieldType := fun k => match k with
  | _ => .int
abbrev wsJ00 : List Cond := u_ws RJ0 TJ0 0
theorem nmJ0 : ∀ a, a < 0 → ∀ b, b < 0 → a ≠ b → (TJ0 a).2.1 ≠ (TJ0 b).2.1 := by decide +kernel
theorem tyJ0_ok : ∀ k, k < 0 → parseFieldDescriptor (TJ0 k).2.2.1 = some (tyJ0 k) := by decide +kernel
def RL : String := "LoafMarksLaw"
abbrev cL_below : ByteArray := method_2_code
def yL_below : MethodName := ⟨RL, "below", "(II)I"⟩
abbrev cL_cell : ByteArray := method_3_code
def yL_cell : MethodName := ⟨RL, "cell", "([II)I"⟩
abbrev cL_act : ByteArray := method_4_code
def yL_act : MethodName := ⟨RL, "act", "(LLoafMarks;LLoafMarksLaw$Sim;I)Z"⟩
abbrev cL_build : ByteArray := method_5_code
def yL_build : MethodName := ⟨RL, "build", "(LLoafMarks;[I)LLoafMarksLaw$Sim;"⟩
abbrev cL_law : ByteArray := code
def yL_law : MethodName := ⟨RL, "law", "([I)Z"⟩
def wsX0_init : List Cond := .code yX0_init cX0_init 5 none :: ([.methodLink RX0 3 objectInit, .instanceMethod objectInit, .code objectInit ⟨#[0xb1]⟩ 1 none, .fieldLink RX0 9 "LoafMarks$Baker" "storeNumber" "I", .fieldLink RX0 15 "LoafMarks$Baker" "mark" "I", .fieldLink RX0 18 "LoafMarks$Baker" "weight" "I", .fieldLink RX0 21 "LoafMarks$Baker" "ration" "I"] ++ wsX00)
def wsX0_becomeLike : List Cond := .code yX0_becomeLike cX0_becomeLike 2 none :: ([.fieldLink RX0 9 "LoafMarks$Baker" "storeNumber" "I", .fieldLink RX0 15 "LoafMarks$Baker" "mark" "I", .fieldLink RX0 21 "LoafMarks$Baker" "ration" "I", .fieldLink RX0 24 "LoafMarks$Baker" "atHand" "I", .fieldLink RX0 18 "LoafMarks$Baker" "weight" "I", .fieldLink RX0 27 "LoafMarks$Baker" "shelf" "I", .fieldLink RX0 30 "LoafMarks$Baker" "sold" "I", .fieldLink RX0 33 "LoafMarks$Baker" "barred" "Z"] ++ wsX00)
def wsX0_bakesLight : List Cond := .code yX0_bakesLight cX0_bakesLight 1 (some .boolean) :: ([.fieldLink RX0 18 "LoafMarks$Baker" "weight" "I"] ++ wsX00)
def wsX0_bake : List Cond := .code yX0_bake cX0_bake 2 none :: ([.fieldLink RX0 33 "LoafMarks$Baker" "barred" "Z", .fieldLink RX0 18 "LoafMarks$Baker" "weight" "I", .fieldLink RX0 24 "LoafMarks$Baker" "atHand" "I", .methodLink RX0 37 Lib.Math.min.name, .static Lib.Math.min.name, .initialized "java/lang/Math", .code Lib.Math.min.name Lib.Math.min.code 2 (some .int), .fieldLink RX0 27 "LoafMarks$Baker" "shelf" "I"] ++ wsX00)
def wsX0_sell : List Cond := .code yX0_sell cX0_sell 3 (some .int) :: ([.fieldLink RX0 27 "LoafMarks$Baker" "shelf" "I", .methodLink RX0 37 Lib.Math.min.name, .static Lib.Math.min.name, .initialized "java/lang/Math", .code Lib.Math.min.name Lib.Math.min.code 2 (some .int), .fieldLink RX0 30 "LoafMarks$Baker" "sold" "I"] ++ wsX00)
def wsX0_inspect : List Cond := .code yX0_inspect cX0_inspect 1 (some .int) :: ([.fieldLink RX0 27 "LoafMarks$Baker" "shelf" "I", .fieldLink RX0 33 "LoafMarks$Baker" "barred" "Z", .fieldLink RX0 18 "LoafMarks$Baker" "weight" "I", .methodLink RX0 43 yX0_bakesLight, .instanceMethod yX0_bakesLight, .selects RX0 yX0_bakesLight yX0_bakesLight, .initialized RX0, .code yX0_bakesLight cX0_bakesLight 1 (some .boolean)] ++ wsX00)
def wsX0_forgive : List Cond := .code yX0_forgive cX0_forgive 2 (some .boolean) :: ([.fieldLink RX0 33 "LoafMarks$Baker" "barred" "Z", .fieldLink RX0 18 "LoafMarks$Baker" "weight" "I", .methodLink RX0 47 Lib.Math.max.name, .static Lib.Math.max.name, .initialized "java/lang/Math", .code Lib.Math.max.name Lib.Math.max.code 2 (some .int)] ++ wsX00)
def wsX0_fact : List Cond := .code yX0_fact cX0_fact 2 (some .int) :: ([.fieldLink RX0 9 "LoafMarks$Baker" "storeNumber" "I", .fieldLink RX0 15 "LoafMarks$Baker" "mark" "I", .fieldLink RX0 21 "LoafMarks$Baker" "ration" "I", .fieldLink RX0 24 "LoafMarks$Baker" "atHand" "I", .fieldLink RX0 18 "LoafMarks$Baker" "weight" "I", .fieldLink RX0 27 "LoafMarks$Baker" "shelf" "I", .fieldLink RX0 30 "LoafMarks$Baker" "sold" "I", .fieldLink RX0 33 "LoafMarks$Baker" "barred" "Z"] ++ wsX00)
def wsX1_init : List Cond := .code yX1_init cX1_init 3 none :: ([.methodLink RX1 3 objectInit, .instanceMethod objectInit, .code objectInit ⟨#[0xb1]⟩ 1 none, .fieldLink RX1 9 "LoafMarks$Store" "flour" "I", .fieldLink RX1 15 "LoafMarks$Store" "weevils" "I"] ++ wsX10)
def wsX1_becomeLike : List Cond := .code yX1_becomeLike cX1_becomeLike 2 none :: ([.fieldLink RX1 9 "LoafMarks$Store" "flour" "I", .fieldLink RX1 15 "LoafMarks$Store" "weevils" "I", .fieldLink RX1 18 "LoafMarks$Store" "eaten" "I"] ++ wsX10)
def wsX1_takeIn : List Cond := .code yX1_takeIn cX1_takeIn 3 (some .int) :: ([.fieldLink RX1 9 "LoafMarks$Store" "flour" "I", .methodLink RX1 21 Lib.Math.min.name, .static Lib.Math.min.name, .initialized "java/lang/Math", .code Lib.Math.min.name Lib.Math.min.code 2 (some .int)] ++ wsX10)
def wsX1_giveOut : List Cond := .code yX1_giveOut cX1_giveOut 3 (some .int) :: ([.fieldLink RX1 9 "LoafMarks$Store" "flour" "I", .methodLink RX1 21 Lib.Math.min.name, .static Lib.Math.min.name, .initialized "java/lang/Math", .code Lib.Math.min.name Lib.Math.min.code 2 (some .int)] ++ wsX10)
def wsX1_feedWeevils : List Cond := .code yX1_feedWeevils cX1_feedWeevils 1 none :: ([.fieldLink RX1 18 "LoafMarks$Store" "eaten" "I", .fieldLink RX1 15 "LoafMarks$Store" "weevils" "I", .fieldLink RX1 9 "LoafMarks$Store" "flour" "I", .methodLink RX1 21 Lib.Math.min.name, .static Lib.Math.min.name, .initialized "java/lang/Math", .code Lib.Math.min.name Lib.Math.min.code 2 (some .int), .methodLink RX1 27 yX1_giveOut, .instanceMethod yX1_giveOut, .selects RX1 yX1_giveOut yX1_giveOut, .initialized RX1, .code yX1_giveOut cX1_giveOut 3 (some .int)] ++ wsX10)
def wsX1_smokeOut : List Cond := .code yX1_smokeOut cX1_smokeOut 2 (some .int) :: ([.fieldLink RX1 15 "LoafMarks$Store" "weevils" "I", .fieldLink RX1 9 "LoafMarks$Store" "flour" "I"] ++ wsX10)
def wsX2_init : List Cond := .code yX2_init cX2_init 1 none :: ([.methodLink RX2 3 objectInit, .instanceMethod objectInit, .code objectInit ⟨#[0xb1]⟩ 1 none, .arrayClass .int, .fieldLink RX2 9 "LoafMarks$Town" "gate" "[I", .classLink RX2 15 RX1, .fieldLink RX2 17 "LoafMarks$Town" "stores" "[LLoafMarks$Store;", .classLink RX2 21 RX0, .fieldLink RX2 23 "LoafMarks$Town" "bakers" "[LLoafMarks$Baker;", .fieldLink RX2 27 "LoafMarks$Town" "people" "I"] ++ wsX20)
def wsX2_gateAt : List Cond := .code yX2_gateAt cX2_gateAt 2 (some .int) :: ([.fieldLink RX2 9 "LoafMarks$Town" "gate" "[I"] ++ wsX20)
def wsX2_storeAt : List Cond := .code yX2_storeAt cX2_storeAt 2 (some (.object "LoafMarks$Store")) :: ([.fieldLink RX2 17 "LoafMarks$Town" "stores" "[LLoafMarks$Store;"] ++ wsX20)
def wsX2_copyStores : List Cond := .code yX2_copyStores cX2_copyStores 5 none :: ([.fieldLink RX2 17 "LoafMarks$Town" "stores" "[LLoafMarks$Store;", .classLink RX2 15 RX1, .instantiable RX1 3, .initialized RX1, .methodLink RX2 57 yX2_storeAt, .instanceMethod yX2_storeAt, .selects RX2 yX2_storeAt yX2_storeAt, .initialized RX2, .code yX2_storeAt cX2_storeAt 2 (some (.object "LoafMarks$Store")), .methodLink RX2 61 yX1_init, .instanceMethod yX1_init, .code yX1_init cX1_init 3 none, .methodLink RX1 3 objectInit, .instanceMethod objectInit, .code objectInit ⟨#[0xb1]⟩ 1 none, .fieldLink RX1 9 "LoafMarks$Store" "flour" "I", .fieldLink RX1 15 "LoafMarks$Store" "weevils" "I", .methodLink RX2 64 yX1_becomeLike, .instanceMethod yX1_becomeLike, .selects RX1 yX1_becomeLike yX1_becomeLike, .code yX1_becomeLike cX1_becomeLike 2 none, .fieldLink RX1 18 "LoafMarks$Store" "eaten" "I"] ++ wsX20 ++ wsX10)
def wsX2_bakerAt : List Cond := .code yX2_bakerAt cX2_bakerAt 2 (some (.object "LoafMarks$Baker")) :: ([.fieldLink RX2 23 "LoafMarks$Town" "bakers" "[LLoafMarks$Baker;"] ++ wsX20)
def wsX2_copyBakers_r1 : List Cond := [Cond.fieldLink RX2 23 "LoafMarks$Town" "bakers" "[LLoafMarks$Baker;", Cond.classLink RX2 21 RX0, Cond.instantiable RX0 8, Cond.initialized RX0, Cond.methodLink RX2 68 yX2_bakerAt, Cond.instanceMethod yX2_bakerAt, Cond.selects RX2 yX2_bakerAt yX2_bakerAt, Cond.initialized RX2, Cond.code yX2_bakerAt cX2_bakerAt 2 (some (.object "LoafMarks$Baker")), Cond.methodLink RX2 72 yX0_init, Cond.instanceMethod yX0_init, Cond.code yX0_init cX0_init 5 none, Cond.methodLink RX0 3 objectInit, Cond.instanceMethod objectInit, Cond.code objectInit ⟨#[0xb1]⟩ 1 none, Cond.fieldLink RX0 9 "LoafMarks$Baker" "storeNumber" "I", Cond.fieldLink RX0 15 "LoafMarks$Baker" "mark" "I", Cond.fieldLink RX0 18 "LoafMarks$Baker" "weight" "I", Cond.fieldLink RX0 21 "LoafMarks$Baker" "ration" "I", Cond.methodLink RX2 75 yX0_becomeLike, Cond.instanceMethod yX0_becomeLike, Cond.selects RX0 yX0_becomeLike yX0_becomeLike, Cond.code yX0_becomeLike cX0_becomeLike 2 none, Cond.fieldLink RX0 24 "LoafMarks$Baker" "atHand" "I"]
def wsX2_copyBakers_r2 : List Cond := [Cond.fieldLink RX0 27 "LoafMarks$Baker" "shelf" "I", Cond.fieldLink RX0 30 "LoafMarks$Baker" "sold" "I", Cond.fieldLink RX0 33 "LoafMarks$Baker" "barred" "Z"]
def wsX2_copyBakers : List Cond := .code yX2_copyBakers cX2_copyBakers 5 none :: ((wsX2_copyBakers_r1 ++ wsX2_copyBakers_r2) ++ wsX20 ++ wsX00)
def wsX2_becomeLike_r1 : List Cond := [Cond.fieldLink RX2 31 "LoafMarks$Town" "hour" "I", Cond.fieldLink RX2 27 "LoafMarks$Town" "people" "I", Cond.fieldLink RX2 34 "LoafMarks$Town" "bought" "I", Cond.fieldLink RX2 37 "LoafMarks$Town" "light" "I", Cond.fieldLink RX2 40 "LoafMarks$Town" "hungry" "I", Cond.fieldLink RX2 43 "LoafMarks$Town" "lost" "I", Cond.fieldLink RX2 9 "LoafMarks$Town" "gate" "[I", Cond.methodLink RX2 46 yX2_gateAt, Cond.instanceMethod yX2_gateAt, Cond.selects RX2 yX2_gateAt yX2_gateAt, Cond.initialized RX2, Cond.code yX2_gateAt cX2_gateAt 2 (some .int), Cond.methodLink RX2 50 yX2_copyStores, Cond.instanceMethod yX2_copyStores, Cond.selects RX2 yX2_copyStores yX2_copyStores, Cond.code yX2_copyStores cX2_copyStores 5 none, Cond.fieldLink RX2 17 "LoafMarks$Town" "stores" "[LLoafMarks$Store;", Cond.classLink RX2 15 RX1, Cond.instantiable RX1 3, Cond.initialized RX1, Cond.methodLink RX2 57 yX2_storeAt, Cond.instanceMethod yX2_storeAt, Cond.selects RX2 yX2_storeAt yX2_storeAt, Cond.code yX2_storeAt cX2_storeAt 2 (some (.object "LoafMarks$Store"))]
def wsX2_becomeLike_r2 : List Cond := [Cond.methodLink RX2 61 yX1_init, Cond.instanceMethod yX1_init, Cond.code yX1_init cX1_init 3 none, Cond.methodLink RX1 3 objectInit, Cond.instanceMethod objectInit, Cond.code objectInit ⟨#[0xb1]⟩ 1 none, Cond.fieldLink RX1 9 "LoafMarks$Store" "flour" "I", Cond.fieldLink RX1 15 "LoafMarks$Store" "weevils" "I", Cond.methodLink RX2 64 yX1_becomeLike, Cond.instanceMethod yX1_becomeLike, Cond.selects RX1 yX1_becomeLike yX1_becomeLike, Cond.code yX1_becomeLike cX1_becomeLike 2 none, Cond.fieldLink RX1 18 "LoafMarks$Store" "eaten" "I", Cond.methodLink RX2 54 yX2_copyBakers, Cond.instanceMethod yX2_copyBakers, Cond.selects RX2 yX2_copyBakers yX2_copyBakers, Cond.code yX2_copyBakers cX2_copyBakers 5 none, Cond.fieldLink RX2 23 "LoafMarks$Town" "bakers" "[LLoafMarks$Baker;", Cond.classLink RX2 21 RX0, Cond.instantiable RX0 8, Cond.initialized RX0, Cond.methodLink RX2 68 yX2_bakerAt, Cond.instanceMethod yX2_bakerAt, Cond.selects RX2 yX2_bakerAt yX2_bakerAt]
def wsX2_becomeLike_r3 : List Cond := [Cond.code yX2_bakerAt cX2_bakerAt 2 (some (.object "LoafMarks$Baker")), Cond.methodLink RX2 72 yX0_init, Cond.instanceMethod yX0_init, Cond.code yX0_init cX0_init 5 none, Cond.methodLink RX0 3 objectInit, Cond.fieldLink RX0 9 "LoafMarks$Baker" "storeNumber" "I", Cond.fieldLink RX0 15 "LoafMarks$Baker" "mark" "I", Cond.fieldLink RX0 18 "LoafMarks$Baker" "weight" "I", Cond.fieldLink RX0 21 "LoafMarks$Baker" "ration" "I", Cond.methodLink RX2 75 yX0_becomeLike, Cond.instanceMethod yX0_becomeLike, Cond.selects RX0 yX0_becomeLike yX0_becomeLike, Cond.code yX0_becomeLike cX0_becomeLike 2 none, Cond.fieldLink RX0 24 "LoafMarks$Baker" "atHand" "I", Cond.fieldLink RX0 27 "LoafMarks$Baker" "shelf" "I", Cond.fieldLink RX0 30 "LoafMarks$Baker" "sold" "I", Cond.fieldLink RX0 33 "LoafMarks$Baker" "barred" "Z"]
def wsX2_becomeLike : List Cond := .code yX2_becomeLike cX2_becomeLike 3 none :: ((wsX2_becomeLike_r1 ++ (wsX2_becomeLike_r2 ++ wsX2_becomeLike_r3)) ++ wsX20 ++ wsX10 ++ wsX00)
def wsX2_changeGate : List Cond := .code yX2_changeGate cX2_changeGate 4 (some .int) :: ([.fieldLink RX2 9 "LoafMarks$Town" "gate" "[I", .methodLink RX2 46 yX2_gateAt, .instanceMethod yX2_gateAt, .selects RX2 yX2_gateAt yX2_gateAt, .initialized RX2, .code yX2_gateAt cX2_gateAt 2 (some .int)] ++ wsX20)
def wsX2_addStore : List Cond := .code yX2_addStore cX2_addStore 4 (some .int) :: ([.fieldLink RX2 17 "LoafMarks$Town" "stores" "[LLoafMarks$Store;", .classLink RX2 15 RX1, .instantiable RX1 3, .initialized RX1, .methodLink RX2 61 yX1_init, .instanceMethod yX1_init, .code yX1_init cX1_init 3 none, .methodLink RX1 3 objectInit, .instanceMethod objectInit, .code objectInit ⟨#[0xb1]⟩ 1 none, .fieldLink RX1 9 "LoafMarks$Store" "flour" "I", .fieldLink RX1 15 "LoafMarks$Store" "weevils" "I"] ++ wsX20 ++ wsX10)
def wsX2_addBaker : List Cond := .code yX2_addBaker cX2_addBaker 6 (some .int) :: ([.fieldLink RX2 23 "LoafMarks$Town" "bakers" "[LLoafMarks$Baker;", .classLink RX2 21 RX0, .instantiable RX0 8, .initialized RX0, .methodLink RX2 72 yX0_init, .instanceMethod yX0_init, .code yX0_init cX0_init 5 none, .methodLink RX0 3 objectInit, .instanceMethod objectInit, .code objectInit ⟨#[0xb1]⟩ 1 none, .fieldLink RX0 9 "LoafMarks$Baker" "storeNumber" "I", .fieldLink RX0 15 "LoafMarks$Baker" "mark" "I", .fieldLink RX0 18 "LoafMarks$Baker" "weight" "I", .fieldLink RX0 21 "LoafMarks$Baker" "ration" "I"] ++ wsX20 ++ wsX00)
def wsX2_bakerWithMark : List Cond := .code yX2_bakerWithMark cX2_bakerWithMark 4 (some .int) :: ([.fieldLink RX2 23 "LoafMarks$Town" "bakers" "[LLoafMarks$Baker;", .fieldLink RX2 78 "LoafMarks$Baker" "mark" "I"] ++ wsX20 ++ wsX00)
def wsJ9_floorMod_7cf53 : List Cond := .code yJ9_floorMod_7cf53 cJ9_floorMod_7cf53 3 (some .int) :: ([])
def wsX2_hourOfDay : List Cond := .code yX2_hourOfDay cX2_hourOfDay 1 (some .int) :: ([.fieldLink RX2 31 "LoafMarks$Town" "hour" "I", .methodLink RX2 104 yJ9_floorMod_7cf53, .static yJ9_floorMod_7cf53, .initialized RJ9, .code yJ9_floorMod_7cf53 cJ9_floorMod_7cf53 3 (some .int)] ++ wsX20)
def wsX2_emptiestStore : List Cond := .code yX2_emptiestStore cX2_emptiestStore 6 (some (.object "LoafMarks$Store")) :: ([.fieldLink RX2 17 "LoafMarks$Town" "stores" "[LLoafMarks$Store;", .fieldLink RX2 117 "LoafMarks$Store" "flour" "I"] ++ wsX20 ++ wsX10)
def wsX2_unloadCarts : List Cond := .code yX2_unloadCarts cX2_unloadCarts 3 none :: ([.fieldLink RX2 43 "LoafMarks$Town" "lost" "I", .methodLink RX2 110 yX2_emptiestStore, .instanceMethod yX2_emptiestStore, .selects RX2 yX2_emptiestStore yX2_emptiestStore, .initialized RX2, .code yX2_emptiestStore cX2_emptiestStore 6 (some (.object "LoafMarks$Store")), .fieldLink RX2 17 "LoafMarks$Town" "stores" "[LLoafMarks$Store;", .fieldLink RX2 117 "LoafMarks$Store" "flour" "I", .methodLink RX2 114 yX1_takeIn, .instanceMethod yX1_takeIn, .selects RX1 yX1_takeIn yX1_takeIn, .initialized RX1, .code yX1_takeIn cX1_takeIn 3 (some .int), .fieldLink RX1 9 "LoafMarks$Store" "flour" "I", .methodLink RX1 21 Lib.Math.min.name, .static Lib.Math.min.name, .initialized "java/lang/Math", .code Lib.Math.min.name Lib.Math.min.code 2 (some .int)] ++ wsX20 ++ wsX10)
def wsX2_dealRations : List Cond := .code yX2_dealRations cX2_dealRations 6 none :: ([.fieldLink RX2 23 "LoafMarks$Town" "bakers" "[LLoafMarks$Baker;", .fieldLink RX2 120 "LoafMarks$Baker" "barred" "Z", .fieldLink RX2 124 "LoafMarks$Baker" "storeNumber" "I", .fieldLink RX2 127 "LoafMarks$Baker" "atHand" "I", .fieldLink RX2 130 "LoafMarks$Baker" "ration" "I", .methodLink RX2 57 yX2_storeAt, .instanceMethod yX2_storeAt, .selects RX2 yX2_storeAt yX2_storeAt, .initialized RX2, .code yX2_storeAt cX2_storeAt 2 (some (.object "LoafMarks$Store")), .fieldLink RX2 17 "LoafMarks$Town" "stores" "[LLoafMarks$Store;", .methodLink RX2 133 yX1_giveOut, .instanceMethod yX1_giveOut, .selects RX1 yX1_giveOut yX1_giveOut, .initialized RX1, .code yX1_giveOut cX1_giveOut 3 (some .int), .fieldLink RX1 9 "LoafMarks$Store" "flour" "I", .methodLink RX1 21 Lib.Math.min.name, .static Lib.Math.min.name, .initialized "java/lang/Math", .code Lib.Math.min.name Lib.Math.min.code 2 (some .int)] ++ wsX20 ++ wsX00 ++ wsX10)
def wsX2_feedAllWeevils : List Cond := .code yX2_feedAllWeevils cX2_feedAllWeevils 5 none :: ([.fieldLink RX2 17 "LoafMarks$Town" "stores" "[LLoafMarks$Store;", .methodLink RX2 136 yX1_feedWeevils, .instanceMethod yX1_feedWeevils, .selects RX1 yX1_feedWeevils yX1_feedWeevils, .initialized RX1, .code yX1_feedWeevils cX1_feedWeevils 1 none, .fieldLink RX1 18 "LoafMarks$Store" "eaten" "I", .fieldLink RX1 15 "LoafMarks$Store" "weevils" "I", .fieldLink RX1 9 "LoafMarks$Store" "flour" "I", .methodLink RX1 21 Lib.Math.min.name, .static Lib.Math.min.name, .initialized "java/lang/Math", .code Lib.Math.min.name Lib.Math.min.code 2 (some .int), .methodLink RX1 27 yX1_giveOut, .instanceMethod yX1_giveOut, .selects RX1 yX1_giveOut yX1_giveOut, .code yX1_giveOut cX1_giveOut 3 (some .int)] ++ wsX20 ++ wsX10)
def wsX2_bakeAll : List Cond := .code yX2_bakeAll cX2_bakeAll 5 none :: ([.fieldLink RX2 23 "LoafMarks$Town" "bakers" "[LLoafMarks$Baker;", .methodLink RX2 139 yX0_bake, .instanceMethod yX0_bake, .selects RX0 yX0_bake yX0_bake, .initialized RX0, .code yX0_bake cX0_bake 2 none, .fieldLink RX0 33 "LoafMarks$Baker" "barred" "Z", .fieldLink RX0 18 "LoafMarks$Baker" "weight" "I", .fieldLink RX0 24 "LoafMarks$Baker" "atHand" "I", .methodLink RX0 37 Lib.Math.min.name, .static Lib.Math.min.name, .initialized "java/lang/Math", .code Lib.Math.min.name Lib.Math.min.code 2 (some .int), .fieldLink RX0 27 "LoafMarks$Baker" "shelf" "I"] ++ wsX20 ++ wsX00)
def wsX2_sellAtNoon : List Cond := .code yX2_sellAtNoon cX2_sellAtNoon 7 (some .int) :: ([.fieldLink RX2 27 "LoafMarks$Town" "people" "I", .fieldLink RX2 23 "LoafMarks$Town" "bakers" "[LLoafMarks$Baker;", .fieldLink RX2 34 "LoafMarks$Town" "bought" "I", .fieldLink RX2 37 "LoafMarks$Town" "light" "I", .fieldLink RX2 40 "LoafMarks$Town" "hungry" "I", .methodLink RX2 142 yX0_sell, .instanceMethod yX0_sell, .selects RX0 yX0_sell yX0_sell, .initialized RX0, .code yX0_sell cX0_sell 3 (some .int), .fieldLink RX0 27 "LoafMarks$Baker" "shelf" "I", .methodLink RX0 37 Lib.Math.min.name, .static Lib.Math.min.name, .initialized "java/lang/Math", .code Lib.Math.min.name Lib.Math.min.code 2 (some .int), .fieldLink RX0 30 "LoafMarks$Baker" "sold" "I", .methodLink RX2 145 yX0_bakesLight, .instanceMethod yX0_bakesLight, .selects RX0 yX0_bakesLight yX0_bakesLight, .code yX0_bakesLight cX0_bakesLight 1 (some .boolean), .fieldLink RX0 18 "LoafMarks$Baker" "weight" "I"] ++ wsX20 ++ wsX00)
def wsX2_goThroughHour_r1 : List Cond := [Cond.fieldLink RX2 31 "LoafMarks$Town" "hour" "I", Cond.methodLink RX2 85 yX2_hourOfDay, Cond.instanceMethod yX2_hourOfDay, Cond.selects RX2 yX2_hourOfDay yX2_hourOfDay, Cond.initialized RX2, Cond.code yX2_hourOfDay cX2_hourOfDay 1 (some .int), Cond.methodLink RX2 104 yJ9_floorMod_7cf53, Cond.static yJ9_floorMod_7cf53, Cond.initialized RJ9, Cond.code yJ9_floorMod_7cf53 cJ9_floorMod_7cf53 3 (some .int), Cond.methodLink RX2 46 yX2_gateAt, Cond.instanceMethod yX2_gateAt, Cond.selects RX2 yX2_gateAt yX2_gateAt, Cond.code yX2_gateAt cX2_gateAt 2 (some .int), Cond.fieldLink RX2 9 "LoafMarks$Town" "gate" "[I", Cond.methodLink RX2 88 yX2_unloadCarts, Cond.instanceMethod yX2_unloadCarts, Cond.selects RX2 yX2_unloadCarts yX2_unloadCarts, Cond.code yX2_unloadCarts cX2_unloadCarts 3 none, Cond.fieldLink RX2 43 "LoafMarks$Town" "lost" "I", Cond.methodLink RX2 110 yX2_emptiestStore, Cond.instanceMethod yX2_emptiestStore, Cond.selects RX2 yX2_emptiestStore yX2_emptiestStore, Cond.code yX2_emptiestStore cX2_emptiestStore 6 (some (.object "LoafMarks$Store"))]
def wsX2_goThroughHour_r2 : List Cond := [Cond.fieldLink RX2 17 "LoafMarks$Town" "stores" "[LLoafMarks$Store;", Cond.fieldLink RX2 117 "LoafMarks$Store" "flour" "I", Cond.methodLink RX2 114 yX1_takeIn, Cond.instanceMethod yX1_takeIn, Cond.selects RX1 yX1_takeIn yX1_takeIn, Cond.initialized RX1, Cond.code yX1_takeIn cX1_takeIn 3 (some .int), Cond.fieldLink RX1 9 "LoafMarks$Store" "flour" "I", Cond.methodLink RX1 21 Lib.Math.min.name, Cond.static Lib.Math.min.name, Cond.initialized "java/lang/Math", Cond.code Lib.Math.min.name Lib.Math.min.code 2 (some .int), Cond.methodLink RX2 92 yX2_dealRations, Cond.instanceMethod yX2_dealRations, Cond.selects RX2 yX2_dealRations yX2_dealRations, Cond.code yX2_dealRations cX2_dealRations 6 none, Cond.fieldLink RX2 23 "LoafMarks$Town" "bakers" "[LLoafMarks$Baker;", Cond.fieldLink RX2 120 "LoafMarks$Baker" "barred" "Z", Cond.fieldLink RX2 124 "LoafMarks$Baker" "storeNumber" "I", Cond.fieldLink RX2 127 "LoafMarks$Baker" "atHand" "I", Cond.fieldLink RX2 130 "LoafMarks$Baker" "ration" "I", Cond.methodLink RX2 57 yX2_storeAt, Cond.instanceMethod yX2_storeAt, Cond.selects RX2 yX2_storeAt yX2_storeAt]
def wsX2_goThroughHour_r3 : List Cond := [Cond.code yX2_storeAt cX2_storeAt 2 (some (.object "LoafMarks$Store")), Cond.methodLink RX2 133 yX1_giveOut, Cond.instanceMethod yX1_giveOut, Cond.selects RX1 yX1_giveOut yX1_giveOut, Cond.code yX1_giveOut cX1_giveOut 3 (some .int), Cond.methodLink RX2 95 yX2_feedAllWeevils, Cond.instanceMethod yX2_feedAllWeevils, Cond.selects RX2 yX2_feedAllWeevils yX2_feedAllWeevils, Cond.code yX2_feedAllWeevils cX2_feedAllWeevils 5 none, Cond.methodLink RX2 136 yX1_feedWeevils, Cond.instanceMethod yX1_feedWeevils, Cond.selects RX1 yX1_feedWeevils yX1_feedWeevils, Cond.code yX1_feedWeevils cX1_feedWeevils 1 none, Cond.fieldLink RX1 18 "LoafMarks$Store" "eaten" "I", Cond.fieldLink RX1 15 "LoafMarks$Store" "weevils" "I", Cond.methodLink RX1 27 yX1_giveOut, Cond.methodLink RX2 98 yX2_bakeAll, Cond.instanceMethod yX2_bakeAll, Cond.selects RX2 yX2_bakeAll yX2_bakeAll, Cond.code yX2_bakeAll cX2_bakeAll 5 none, Cond.methodLink RX2 139 yX0_bake, Cond.instanceMethod yX0_bake, Cond.selects RX0 yX0_bake yX0_bake, Cond.initialized RX0]
def wsX2_goThroughHour_r4 : List Cond := [Cond.code yX0_bake cX0_bake 2 none, Cond.fieldLink RX0 33 "LoafMarks$Baker" "barred" "Z", Cond.fieldLink RX0 18 "LoafMarks$Baker" "weight" "I", Cond.fieldLink RX0 24 "LoafMarks$Baker" "atHand" "I", Cond.methodLink RX0 37 Lib.Math.min.name, Cond.fieldLink RX0 27 "LoafMarks$Baker" "shelf" "I", Cond.methodLink RX2 101 yX2_sellAtNoon, Cond.instanceMethod yX2_sellAtNoon, Cond.selects RX2 yX2_sellAtNoon yX2_sellAtNoon, Cond.code yX2_sellAtNoon cX2_sellAtNoon 7 (some .int), Cond.fieldLink RX2 27 "LoafMarks$Town" "people" "I", Cond.fieldLink RX2 34 "LoafMarks$Town" "bought" "I", Cond.fieldLink RX2 37 "LoafMarks$Town" "light" "I", Cond.fieldLink RX2 40 "LoafMarks$Town" "hungry" "I", Cond.methodLink RX2 142 yX0_sell, Cond.instanceMethod yX0_sell, Cond.selects RX0 yX0_sell yX0_sell, Cond.code yX0_sell cX0_sell 3 (some .int), Cond.fieldLink RX0 30 "LoafMarks$Baker" "sold" "I", Cond.methodLink RX2 145 yX0_bakesLight, Cond.instanceMethod yX0_bakesLight, Cond.selects RX0 yX0_bakesLight yX0_bakesLight, Cond.code yX0_bakesLight cX0_bakesLight 1 (some .boolean)]
def wsX2_goThroughHour : List Cond := .code yX2_goThroughHour cX2_goThroughHour 3 (some .int) :: ((wsX2_goThroughHour_r1 ++ (wsX2_goThroughHour_r2 ++ (wsX2_goThroughHour_r3 ++ wsX2_goThroughHour_r4))) ++ wsX20 ++ wsX10 ++ wsX00)
def wsX2_goThrough_r1 : List Cond := [Cond.methodLink RX2 81 yX2_goThroughHour, Cond.instanceMethod yX2_goThroughHour, Cond.selects RX2 yX2_goThroughHour yX2_goThroughHour, Cond.initialized RX2, Cond.code yX2_goThroughHour cX2_goThroughHour 3 (some .int), Cond.fieldLink RX2 31 "LoafMarks$Town" "hour" "I", Cond.methodLink RX2 85 yX2_hourOfDay, Cond.instanceMethod yX2_hourOfDay, Cond.selects RX2 yX2_hourOfDay yX2_hourOfDay, Cond.code yX2_hourOfDay cX2_hourOfDay 1 (some .int), Cond.methodLink RX2 104 yJ9_floorMod_7cf53, Cond.static yJ9_floorMod_7cf53, Cond.initialized RJ9, Cond.code yJ9_floorMod_7cf53 cJ9_floorMod_7cf53 3 (some .int), Cond.methodLink RX2 46 yX2_gateAt, Cond.instanceMethod yX2_gateAt, Cond.selects RX2 yX2_gateAt yX2_gateAt, Cond.code yX2_gateAt cX2_gateAt 2 (some .int), Cond.fieldLink RX2 9 "LoafMarks$Town" "gate" "[I", Cond.methodLink RX2 88 yX2_unloadCarts, Cond.instanceMethod yX2_unloadCarts, Cond.selects RX2 yX2_unloadCarts yX2_unloadCarts, Cond.code yX2_unloadCarts cX2_unloadCarts 3 none, Cond.fieldLink RX2 43 "LoafMarks$Town" "lost" "I"]
def wsX2_goThrough_r2 : List Cond := [Cond.methodLink RX2 110 yX2_emptiestStore, Cond.instanceMethod yX2_emptiestStore, Cond.selects RX2 yX2_emptiestStore yX2_emptiestStore, Cond.code yX2_emptiestStore cX2_emptiestStore 6 (some (.object "LoafMarks$Store")), Cond.fieldLink RX2 17 "LoafMarks$Town" "stores" "[LLoafMarks$Store;", Cond.fieldLink RX2 117 "LoafMarks$Store" "flour" "I", Cond.methodLink RX2 114 yX1_takeIn, Cond.instanceMethod yX1_takeIn, Cond.selects RX1 yX1_takeIn yX1_takeIn, Cond.initialized RX1, Cond.code yX1_takeIn cX1_takeIn 3 (some .int), Cond.fieldLink RX1 9 "LoafMarks$Store" "flour" "I", Cond.methodLink RX1 21 Lib.Math.min.name, Cond.static Lib.Math.min.name, Cond.initialized "java/lang/Math", Cond.code Lib.Math.min.name Lib.Math.min.code 2 (some .int), Cond.methodLink RX2 92 yX2_dealRations, Cond.instanceMethod yX2_dealRations, Cond.selects RX2 yX2_dealRations yX2_dealRations, Cond.code yX2_dealRations cX2_dealRations 6 none, Cond.fieldLink RX2 23 "LoafMarks$Town" "bakers" "[LLoafMarks$Baker;", Cond.fieldLink RX2 120 "LoafMarks$Baker" "barred" "Z", Cond.fieldLink RX2 124 "LoafMarks$Baker" "storeNumber" "I", Cond.fieldLink RX2 127 "LoafMarks$Baker" "atHand" "I"]
def wsX2_goThrough_r3 : List Cond := [Cond.fieldLink RX2 130 "LoafMarks$Baker" "ration" "I", Cond.methodLink RX2 57 yX2_storeAt, Cond.instanceMethod yX2_storeAt, Cond.selects RX2 yX2_storeAt yX2_storeAt, Cond.code yX2_storeAt cX2_storeAt 2 (some (.object "LoafMarks$Store")), Cond.methodLink RX2 133 yX1_giveOut, Cond.instanceMethod yX1_giveOut, Cond.selects RX1 yX1_giveOut yX1_giveOut, Cond.code yX1_giveOut cX1_giveOut 3 (some .int), Cond.methodLink RX2 95 yX2_feedAllWeevils, Cond.instanceMethod yX2_feedAllWeevils, Cond.selects RX2 yX2_feedAllWeevils yX2_feedAllWeevils, Cond.code yX2_feedAllWeevils cX2_feedAllWeevils 5 none, Cond.methodLink RX2 136 yX1_feedWeevils, Cond.instanceMethod yX1_feedWeevils, Cond.selects RX1 yX1_feedWeevils yX1_feedWeevils, Cond.code yX1_feedWeevils cX1_feedWeevils 1 none, Cond.fieldLink RX1 18 "LoafMarks$Store" "eaten" "I", Cond.fieldLink RX1 15 "LoafMarks$Store" "weevils" "I", Cond.methodLink RX1 27 yX1_giveOut, Cond.methodLink RX2 98 yX2_bakeAll, Cond.instanceMethod yX2_bakeAll, Cond.selects RX2 yX2_bakeAll yX2_bakeAll, Cond.code yX2_bakeAll cX2_bakeAll 5 none]
def wsX2_goThrough_r4 : List Cond := [Cond.methodLink RX2 139 yX0_bake, Cond.instanceMethod yX0_bake, Cond.selects RX0 yX0_bake yX0_bake, Cond.initialized RX0, Cond.code yX0_bake cX0_bake 2 none, Cond.fieldLink RX0 33 "LoafMarks$Baker" "barred" "Z", Cond.fieldLink RX0 18 "LoafMarks$Baker" "weight" "I", Cond.fieldLink RX0 24 "LoafMarks$Baker" "atHand" "I", Cond.methodLink RX0 37 Lib.Math.min.name, Cond.fieldLink RX0 27 "LoafMarks$Baker" "shelf" "I", Cond.methodLink RX2 101 yX2_sellAtNoon, Cond.instanceMethod yX2_sellAtNoon, Cond.selects RX2 yX2_sellAtNoon yX2_sellAtNoon, Cond.code yX2_sellAtNoon cX2_sellAtNoon 7 (some .int), Cond.fieldLink RX2 27 "LoafMarks$Town" "people" "I", Cond.fieldLink RX2 34 "LoafMarks$Town" "bought" "I", Cond.fieldLink RX2 37 "LoafMarks$Town" "light" "I", Cond.fieldLink RX2 40 "LoafMarks$Town" "hungry" "I", Cond.methodLink RX2 142 yX0_sell, Cond.instanceMethod yX0_sell, Cond.selects RX0 yX0_sell yX0_sell, Cond.code yX0_sell cX0_sell 3 (some .int), Cond.fieldLink RX0 30 "LoafMarks$Baker" "sold" "I", Cond.methodLink RX2 145 yX0_bakesLight]
def wsX2_goThrough_r5 : List Cond := [Cond.instanceMethod yX0_bakesLight, Cond.selects RX0 yX0_bakesLight yX0_bakesLight, Cond.code yX0_bakesLight cX0_bakesLight 1 (some .boolean)]
def wsX2_goThrough : List Cond := .code yX2_goThrough cX2_goThrough 4 (some .int) :: ((wsX2_goThrough_r1 ++ (wsX2_goThrough_r2 ++ (wsX2_goThrough_r3 ++ (wsX2_goThrough_r4 ++ wsX2_goThrough_r5)))) ++ wsX20 ++ wsX10 ++ wsX00)
def wsX2_flourOfAll : List Cond := .code yX2_flourOfAll cX2_flourOfAll 6 (some .int) :: ([.fieldLink RX2 17 "LoafMarks$Town" "stores" "[LLoafMarks$Store;", .fieldLink RX2 117 "LoafMarks$Store" "flour" "I"] ++ wsX20 ++ wsX10)
def wsX2_weevilsOfAll : List Cond := .code yX2_weevilsOfAll cX2_weevilsOfAll 6 (some .int) :: ([.fieldLink RX2 17 "LoafMarks$Town" "stores" "[LLoafMarks$Store;", .fieldLink RX2 149 "LoafMarks$Store" "weevils" "I"] ++ wsX20 ++ wsX10)
def wsX2_loavesOfAll : List Cond := .code yX2_loavesOfAll cX2_loavesOfAll 6 (some .int) :: ([.fieldLink RX2 23 "LoafMarks$Town" "bakers" "[LLoafMarks$Baker;", .fieldLink RX2 152 "LoafMarks$Baker" "shelf" "I"] ++ wsX20 ++ wsX00)
def wsX2_bakersOfStore : List Cond := .code yX2_bakersOfStore cX2_bakersOfStore 7 (some .int) :: ([.fieldLink RX2 23 "LoafMarks$Town" "bakers" "[LLoafMarks$Baker;", .fieldLink RX2 124 "LoafMarks$Baker" "storeNumber" "I"] ++ wsX20 ++ wsX00)
def wsX2_barredBakers : List Cond := .code yX2_barredBakers cX2_barredBakers 6 (some .int) :: ([.fieldLink RX2 23 "LoafMarks$Town" "bakers" "[LLoafMarks$Baker;", .fieldLink RX2 120 "LoafMarks$Baker" "barred" "Z"] ++ wsX20 ++ wsX00)
def wsX2_storeFact : List Cond := .code yX2_storeFact cX2_storeFact 4 (some .int) :: ([.fieldLink RX2 117 "LoafMarks$Store" "flour" "I", .fieldLink RX2 149 "LoafMarks$Store" "weevils" "I", .fieldLink RX2 158 "LoafMarks$Store" "eaten" "I", .methodLink RX2 57 yX2_storeAt, .instanceMethod yX2_storeAt, .selects RX2 yX2_storeAt yX2_storeAt, .initialized RX2, .code yX2_storeAt cX2_storeAt 2 (some (.object "LoafMarks$Store")), .fieldLink RX2 17 "LoafMarks$Town" "stores" "[LLoafMarks$Store;", .methodLink RX2 155 yX2_bakersOfStore, .instanceMethod yX2_bakersOfStore, .selects RX2 yX2_bakersOfStore yX2_bakersOfStore, .code yX2_bakersOfStore cX2_bakersOfStore 7 (some .int), .fieldLink RX2 23 "LoafMarks$Town" "bakers" "[LLoafMarks$Baker;", .fieldLink RX2 124 "LoafMarks$Baker" "storeNumber" "I"] ++ wsX10 ++ wsX20 ++ wsX00)
def wsX2_fact_r1 : List Cond := [Cond.fieldLink RX2 31 "LoafMarks$Town" "hour" "I", Cond.fieldLink RX2 27 "LoafMarks$Town" "people" "I", Cond.fieldLink RX2 34 "LoafMarks$Town" "bought" "I", Cond.fieldLink RX2 37 "LoafMarks$Town" "light" "I", Cond.fieldLink RX2 40 "LoafMarks$Town" "hungry" "I", Cond.fieldLink RX2 43 "LoafMarks$Town" "lost" "I", Cond.methodLink RX2 85 yX2_hourOfDay, Cond.instanceMethod yX2_hourOfDay, Cond.selects RX2 yX2_hourOfDay yX2_hourOfDay, Cond.initialized RX2, Cond.code yX2_hourOfDay cX2_hourOfDay 1 (some .int), Cond.methodLink RX2 104 yJ9_floorMod_7cf53, Cond.static yJ9_floorMod_7cf53, Cond.initialized RJ9, Cond.code yJ9_floorMod_7cf53 cJ9_floorMod_7cf53 3 (some .int), Cond.methodLink RX2 161 yX2_flourOfAll, Cond.instanceMethod yX2_flourOfAll, Cond.selects RX2 yX2_flourOfAll yX2_flourOfAll, Cond.code yX2_flourOfAll cX2_flourOfAll 6 (some .int), Cond.fieldLink RX2 17 "LoafMarks$Town" "stores" "[LLoafMarks$Store;", Cond.fieldLink RX2 117 "LoafMarks$Store" "flour" "I", Cond.methodLink RX2 164 yX2_loavesOfAll, Cond.instanceMethod yX2_loavesOfAll, Cond.selects RX2 yX2_loavesOfAll yX2_loavesOfAll]
def wsX2_fact_r2 : List Cond := [Cond.code yX2_loavesOfAll cX2_loavesOfAll 6 (some .int), Cond.fieldLink RX2 23 "LoafMarks$Town" "bakers" "[LLoafMarks$Baker;", Cond.fieldLink RX2 152 "LoafMarks$Baker" "shelf" "I", Cond.methodLink RX2 167 yX2_barredBakers, Cond.instanceMethod yX2_barredBakers, Cond.selects RX2 yX2_barredBakers yX2_barredBakers, Cond.code yX2_barredBakers cX2_barredBakers 6 (some .int), Cond.fieldLink RX2 120 "LoafMarks$Baker" "barred" "Z"]
def wsX2_fact : List Cond := .code yX2_fact cX2_fact 2 (some .int) :: ((wsX2_fact_r1 ++ wsX2_fact_r2) ++ wsX20 ++ wsX10 ++ wsX00)
def wsX3_init : List Cond := .code yX3_init cX3_init 1 none :: ([.methodLink RX3 1 objectInit, .instanceMethod objectInit, .code objectInit ⟨#[0xb1]⟩ 1 none, .classLink RX3 7 RX2, .instantiable RX2 9, .initialized RX2, .fieldLink RX3 10 "LoafMarks" "town" "LLoafMarks$Town;", .fieldLink RX3 16 "LoafMarks" "trial" "LLoafMarks$Town;", .instanceMethod yX2_init, .code yX2_init cX2_init 1 none, .methodLink RX2 3 objectInit, .arrayClass .int, .fieldLink RX2 9 "LoafMarks$Town" "gate" "[I", .classLink RX2 15 RX1, .fieldLink RX2 17 "LoafMarks$Town" "stores" "[LLoafMarks$Store;", .classLink RX2 21 RX0, .fieldLink RX2 23 "LoafMarks$Town" "bakers" "[LLoafMarks$Baker;", .fieldLink RX2 27 "LoafMarks$Town" "people" "I"] ++ wsX20 ++ wsX30)
def wsX3_isWithin : List Cond := .code yX3_isWithin cX3_isWithin 3 (some .boolean) :: ([])
def wsX3_setPeople : List Cond := .code yX3_setPeople cX3_setPeople 3 (some .int) :: ([.classLink RX3 23 "java/lang/IllegalArgumentException", .initialized "java/lang/IllegalArgumentException", .fieldLink RX3 10 "LoafMarks" "town" "LLoafMarks$Town;", .fieldLink RX3 30 "LoafMarks$Town" "people" "I", .methodLink RX3 19 yX3_isWithin, .static yX3_isWithin, .initialized RX3, .code yX3_isWithin cX3_isWithin 3 (some .boolean)] ++ wsX30 ++ wsX20 ++ (vx_atS RX3 27 "java/lang/IllegalArgumentException" ["java/lang/RuntimeException", "java/lang/Exception"]).filter goodWord)
def wsX3_setGate : List Cond := .code yX3_setGate cX3_setGate 3 (some .int) :: ([.classLink RX3 34 "java/lang/IndexOutOfBoundsException", .initialized "java/lang/IndexOutOfBoundsException", .classLink RX3 23 "java/lang/IllegalArgumentException", .initialized "java/lang/IllegalArgumentException", .fieldLink RX3 10 "LoafMarks" "town" "LLoafMarks$Town;", .methodLink RX3 19 yX3_isWithin, .static yX3_isWithin, .initialized RX3, .code yX3_isWithin cX3_isWithin 3 (some .boolean), .methodLink RX3 41 yX2_changeGate, .instanceMethod yX2_changeGate, .selects RX2 yX2_changeGate yX2_changeGate, .initialized RX2, .code yX2_changeGate cX2_changeGate 4 (some .int), .fieldLink RX2 9 "LoafMarks$Town" "gate" "[I", .methodLink RX2 46 yX2_gateAt, .instanceMethod yX2_gateAt, .selects RX2 yX2_gateAt yX2_gateAt, .code yX2_gateAt cX2_gateAt 2 (some .int)] ++ wsX30 ++ wsX20 ++ (vx_atS RX3 38 "java/lang/IndexOutOfBoundsException" ["java/lang/RuntimeException", "java/lang/Exception"]).filter goodWord ++ (vx_atS RX3 27 "java/lang/IllegalArgumentException" ["java/lang/RuntimeException", "java/lang/Exception"]).filter goodWord)
def wsX3_open_r1 : List Cond := [Cond.classLink RX3 23 "java/lang/IllegalArgumentException", Cond.initialized "java/lang/IllegalArgumentException", Cond.classLink RX3 52 "java/lang/IllegalStateException", Cond.initialized "java/lang/IllegalStateException", Cond.fieldLink RX3 10 "LoafMarks" "town" "LLoafMarks$Town;", Cond.methodLink RX3 19 yX3_isWithin, Cond.static yX3_isWithin, Cond.initialized RX3, Cond.code yX3_isWithin cX3_isWithin 3 (some .boolean), Cond.methodLink RX3 49 yX2_addStore, Cond.instanceMethod yX2_addStore, Cond.selects RX2 yX2_addStore yX2_addStore, Cond.initialized RX2, Cond.code yX2_addStore cX2_addStore 4 (some .int), Cond.fieldLink RX2 17 "LoafMarks$Town" "stores" "[LLoafMarks$Store;", Cond.classLink RX2 15 RX1, Cond.instantiable RX1 3, Cond.initialized RX1, Cond.methodLink RX2 61 yX1_init, Cond.instanceMethod yX1_init, Cond.code yX1_init cX1_init 3 none, Cond.methodLink RX1 3 objectInit, Cond.instanceMethod objectInit, Cond.code objectInit ⟨#[0xb1]⟩ 1 none]
def wsX3_open_r2 : List Cond := [Cond.fieldLink RX1 9 "LoafMarks$Store" "flour" "I", Cond.fieldLink RX1 15 "LoafMarks$Store" "weevils" "I"]
def wsX3_open : List Cond := .code yX3_open cX3_open 4 (some .int) :: ((wsX3_open_r1 ++ wsX3_open_r2) ++ wsX30 ++ wsX20 ++ wsX10 ++ (vx_atS RX3 27 "java/lang/IllegalArgumentException" ["java/lang/RuntimeException", "java/lang/Exception"]).filter goodWord ++ (vx_atS RX3 56 "java/lang/IllegalStateException" ["java/lang/RuntimeException", "java/lang/Exception"]).filter goodWord)
def wsX3_smoke : List Cond := .code yX3_smoke cX3_smoke 3 (some .int) :: ([.classLink RX3 34 "java/lang/IndexOutOfBoundsException", .initialized "java/lang/IndexOutOfBoundsException", .fieldLink RX3 10 "LoafMarks" "town" "LLoafMarks$Town;", .methodLink RX3 57 yX2_storeAt, .instanceMethod yX2_storeAt, .selects RX2 yX2_storeAt yX2_storeAt, .initialized RX2, .code yX2_storeAt cX2_storeAt 2 (some (.object "LoafMarks$Store")), .fieldLink RX2 17 "LoafMarks$Town" "stores" "[LLoafMarks$Store;", .methodLink RX3 63 yX1_smokeOut, .instanceMethod yX1_smokeOut, .selects RX1 yX1_smokeOut yX1_smokeOut, .initialized RX1, .code yX1_smokeOut cX1_smokeOut 2 (some .int), .fieldLink RX1 15 "LoafMarks$Store" "weevils" "I", .fieldLink RX1 9 "LoafMarks$Store" "flour" "I"] ++ wsX30 ++ wsX20 ++ wsX10 ++ (vx_atS RX3 38 "java/lang/IndexOutOfBoundsException" ["java/lang/RuntimeException", "java/lang/Exception"]).filter goodWord)
def wsX3_swear_r1 : List Cond := [Cond.classLink RX3 34 "java/lang/IndexOutOfBoundsException", Cond.initialized "java/lang/IndexOutOfBoundsException", Cond.classLink RX3 23 "java/lang/IllegalArgumentException", Cond.initialized "java/lang/IllegalArgumentException", Cond.classLink RX3 52 "java/lang/IllegalStateException", Cond.initialized "java/lang/IllegalStateException", Cond.fieldLink RX3 10 "LoafMarks" "town" "LLoafMarks$Town;", Cond.methodLink RX3 57 yX2_storeAt, Cond.instanceMethod yX2_storeAt, Cond.selects RX2 yX2_storeAt yX2_storeAt, Cond.initialized RX2, Cond.code yX2_storeAt cX2_storeAt 2 (some (.object "LoafMarks$Store")), Cond.fieldLink RX2 17 "LoafMarks$Town" "stores" "[LLoafMarks$Store;", Cond.methodLink RX3 19 yX3_isWithin, Cond.static yX3_isWithin, Cond.initialized RX3, Cond.code yX3_isWithin cX3_isWithin 3 (some .boolean), Cond.methodLink RX3 75 yX2_bakerWithMark, Cond.instanceMethod yX2_bakerWithMark, Cond.selects RX2 yX2_bakerWithMark yX2_bakerWithMark, Cond.code yX2_bakerWithMark cX2_bakerWithMark 4 (some .int), Cond.fieldLink RX2 23 "LoafMarks$Town" "bakers" "[LLoafMarks$Baker;", Cond.fieldLink RX2 78 "LoafMarks$Baker" "mark" "I", Cond.methodLink RX3 81 yX2_addBaker]
def wsX3_swear_r2 : List Cond := [Cond.instanceMethod yX2_addBaker, Cond.selects RX2 yX2_addBaker yX2_addBaker, Cond.code yX2_addBaker cX2_addBaker 6 (some .int), Cond.classLink RX2 21 RX0, Cond.instantiable RX0 8, Cond.initialized RX0, Cond.methodLink RX2 72 yX0_init, Cond.instanceMethod yX0_init, Cond.code yX0_init cX0_init 5 none, Cond.methodLink RX0 3 objectInit, Cond.instanceMethod objectInit, Cond.code objectInit ⟨#[0xb1]⟩ 1 none, Cond.fieldLink RX0 9 "LoafMarks$Baker" "storeNumber" "I", Cond.fieldLink RX0 15 "LoafMarks$Baker" "mark" "I", Cond.fieldLink RX0 18 "LoafMarks$Baker" "weight" "I", Cond.fieldLink RX0 21 "LoafMarks$Baker" "ration" "I"]
def wsX3_swear : List Cond := .code yX3_swear cX3_swear 6 (some .int) :: ((wsX3_swear_r1 ++ wsX3_swear_r2) ++ wsX30 ++ wsX20 ++ wsX00 ++ (vx_atS RX3 38 "java/lang/IndexOutOfBoundsException" ["java/lang/RuntimeException", "java/lang/Exception"]).filter goodWord ++ (vx_atS RX3 27 "java/lang/IllegalArgumentException" ["java/lang/RuntimeException", "java/lang/Exception"]).filter goodWord ++ (vx_atS RX3 56 "java/lang/IllegalStateException" ["java/lang/RuntimeException", "java/lang/Exception"]).filter goodWord)
def wsX3_deal : List Cond := .code yX3_deal cX3_deal 5 (some .int) :: ([.classLink RX3 34 "java/lang/IndexOutOfBoundsException", .initialized "java/lang/IndexOutOfBoundsException", .classLink RX3 23 "java/lang/IllegalArgumentException", .initialized "java/lang/IllegalArgumentException", .fieldLink RX3 10 "LoafMarks" "town" "LLoafMarks$Town;", .fieldLink RX3 93 "LoafMarks$Baker" "ration" "I", .methodLink RX3 87 yX2_bakerAt, .instanceMethod yX2_bakerAt, .selects RX2 yX2_bakerAt yX2_bakerAt, .initialized RX2, .code yX2_bakerAt cX2_bakerAt 2 (some (.object "LoafMarks$Baker")), .fieldLink RX2 23 "LoafMarks$Town" "bakers" "[LLoafMarks$Baker;", .methodLink RX3 19 yX3_isWithin, .static yX3_isWithin, .initialized RX3, .code yX3_isWithin cX3_isWithin 3 (some .boolean)] ++ wsX30 ++ wsX00 ++ wsX20 ++ (vx_atS RX3 38 "java/lang/IndexOutOfBoundsException" ["java/lang/RuntimeException", "java/lang/Exception"]).filter goodWord ++ (vx_atS RX3 27 "java/lang/IllegalArgumentException" ["java/lang/RuntimeException", "java/lang/Exception"]).filter goodWord)
def wsX3_weigh : List Cond := .code yX3_weigh cX3_weigh 3 (some .int) :: ([.classLink RX3 34 "java/lang/IndexOutOfBoundsException", .initialized "java/lang/IndexOutOfBoundsException", .classLink RX3 52 "java/lang/IllegalStateException", .initialized "java/lang/IllegalStateException", .fieldLink RX3 10 "LoafMarks" "town" "LLoafMarks$Town;", .fieldLink RX3 98 "LoafMarks$Baker" "shelf" "I", .methodLink RX3 87 yX2_bakerAt, .instanceMethod yX2_bakerAt, .selects RX2 yX2_bakerAt yX2_bakerAt, .initialized RX2, .code yX2_bakerAt cX2_bakerAt 2 (some (.object "LoafMarks$Baker")), .fieldLink RX2 23 "LoafMarks$Town" "bakers" "[LLoafMarks$Baker;", .methodLink RX3 103 yX0_inspect, .instanceMethod yX0_inspect, .selects RX0 yX0_inspect yX0_inspect, .initialized RX0, .code yX0_inspect cX0_inspect 1 (some .int), .fieldLink RX0 27 "LoafMarks$Baker" "shelf" "I", .fieldLink RX0 33 "LoafMarks$Baker" "barred" "Z", .fieldLink RX0 18 "LoafMarks$Baker" "weight" "I", .methodLink RX0 43 yX0_bakesLight, .instanceMethod yX0_bakesLight, .selects RX0 yX0_bakesLight yX0_bakesLight, .code yX0_bakesLight cX0_bakesLight 1 (some .boolean)] ++ wsX30 ++ wsX00 ++ wsX20 ++ (vx_atS RX3 38 "java/lang/IndexOutOfBoundsException" ["java/lang/RuntimeException", "java/lang/Exception"]).filter goodWord ++ (vx_atS RX3 56 "java/lang/IllegalStateException" ["java/lang/RuntimeException", "java/lang/Exception"]).filter goodWord)
def wsX3_pardon : List Cond := .code yX3_pardon cX3_pardon 3 (some .boolean) :: ([.classLink RX3 34 "java/lang/IndexOutOfBoundsException", .initialized "java/lang/IndexOutOfBoundsException", .fieldLink RX3 10 "LoafMarks" "town" "LLoafMarks$Town;", .methodLink RX3 87 yX2_bakerAt, .instanceMethod yX2_bakerAt, .selects RX2 yX2_bakerAt yX2_bakerAt, .initialized RX2, .code yX2_bakerAt cX2_bakerAt 2 (some (.object "LoafMarks$Baker")), .fieldLink RX2 23 "LoafMarks$Town" "bakers" "[LLoafMarks$Baker;", .methodLink RX3 106 yX0_forgive, .instanceMethod yX0_forgive, .selects RX0 yX0_forgive yX0_forgive, .initialized RX0, .code yX0_forgive cX0_forgive 2 (some .boolean), .fieldLink RX0 33 "LoafMarks$Baker" "barred" "Z", .fieldLink RX0 18 "LoafMarks$Baker" "weight" "I", .methodLink RX0 47 Lib.Math.max.name, .static Lib.Math.max.name, .initialized "java/lang/Math", .code Lib.Math.max.name Lib.Math.max.code 2 (some .int)] ++ wsX30 ++ wsX20 ++ wsX00 ++ (vx_atS RX3 38 "java/lang/IndexOutOfBoundsException" ["java/lang/RuntimeException", "java/lang/Exception"]).filter goodWord)
def wsX3_store_r1 : List Cond := [Cond.classLink RX3 34 "java/lang/IndexOutOfBoundsException", Cond.initialized "java/lang/IndexOutOfBoundsException", Cond.fieldLink RX3 10 "LoafMarks" "town" "LLoafMarks$Town;", Cond.methodLink RX3 57 yX2_storeAt, Cond.instanceMethod yX2_storeAt, Cond.selects RX2 yX2_storeAt yX2_storeAt, Cond.initialized RX2, Cond.code yX2_storeAt cX2_storeAt 2 (some (.object "LoafMarks$Store")), Cond.fieldLink RX2 17 "LoafMarks$Town" "stores" "[LLoafMarks$Store;", Cond.methodLink RX3 19 yX3_isWithin, Cond.static yX3_isWithin, Cond.initialized RX3, Cond.code yX3_isWithin cX3_isWithin 3 (some .boolean), Cond.methodLink RX3 112 yX2_storeFact, Cond.instanceMethod yX2_storeFact, Cond.selects RX2 yX2_storeFact yX2_storeFact, Cond.code yX2_storeFact cX2_storeFact 4 (some .int), Cond.fieldLink RX2 117 "LoafMarks$Store" "flour" "I", Cond.fieldLink RX2 149 "LoafMarks$Store" "weevils" "I", Cond.fieldLink RX2 158 "LoafMarks$Store" "eaten" "I", Cond.methodLink RX2 57 yX2_storeAt, Cond.methodLink RX2 155 yX2_bakersOfStore, Cond.instanceMethod yX2_bakersOfStore, Cond.selects RX2 yX2_bakersOfStore yX2_bakersOfStore]
def wsX3_store_r2 : List Cond := [Cond.code yX2_bakersOfStore cX2_bakersOfStore 7 (some .int), Cond.fieldLink RX2 23 "LoafMarks$Town" "bakers" "[LLoafMarks$Baker;", Cond.fieldLink RX2 124 "LoafMarks$Baker" "storeNumber" "I"]
def wsX3_store : List Cond := .code yX3_store cX3_store 3 (some .int) :: ((wsX3_store_r1 ++ wsX3_store_r2) ++ wsX30 ++ wsX20 ++ wsX10 ++ wsX00 ++ (vx_atS RX3 38 "java/lang/IndexOutOfBoundsException" ["java/lang/RuntimeException", "java/lang/Exception"]).filter goodWord)
def wsX3_baker_r1 : List Cond := [Cond.classLink RX3 34 "java/lang/IndexOutOfBoundsException", Cond.initialized "java/lang/IndexOutOfBoundsException", Cond.fieldLink RX3 10 "LoafMarks" "town" "LLoafMarks$Town;", Cond.methodLink RX3 87 yX2_bakerAt, Cond.instanceMethod yX2_bakerAt, Cond.selects RX2 yX2_bakerAt yX2_bakerAt, Cond.initialized RX2, Cond.code yX2_bakerAt cX2_bakerAt 2 (some (.object "LoafMarks$Baker")), Cond.fieldLink RX2 23 "LoafMarks$Town" "bakers" "[LLoafMarks$Baker;", Cond.methodLink RX3 19 yX3_isWithin, Cond.static yX3_isWithin, Cond.initialized RX3, Cond.code yX3_isWithin cX3_isWithin 3 (some .boolean), Cond.methodLink RX3 117 yX0_fact, Cond.instanceMethod yX0_fact, Cond.selects RX0 yX0_fact yX0_fact, Cond.initialized RX0, Cond.code yX0_fact cX0_fact 2 (some .int), Cond.fieldLink RX0 9 "LoafMarks$Baker" "storeNumber" "I", Cond.fieldLink RX0 15 "LoafMarks$Baker" "mark" "I", Cond.fieldLink RX0 21 "LoafMarks$Baker" "ration" "I", Cond.fieldLink RX0 24 "LoafMarks$Baker" "atHand" "I", Cond.fieldLink RX0 18 "LoafMarks$Baker" "weight" "I", Cond.fieldLink RX0 27 "LoafMarks$Baker" "shelf" "I"]
def wsX3_baker_r2 : List Cond := [Cond.fieldLink RX0 30 "LoafMarks$Baker" "sold" "I", Cond.fieldLink RX0 33 "LoafMarks$Baker" "barred" "Z"]
def wsX3_baker : List Cond := .code yX3_baker cX3_baker 4 (some .int) :: ((wsX3_baker_r1 ++ wsX3_baker_r2) ++ wsX30 ++ wsX20 ++ wsX00 ++ (vx_atS RX3 38 "java/lang/IndexOutOfBoundsException" ["java/lang/RuntimeException", "java/lang/Exception"]).filter goodWord)
def wsX3_whose : List Cond := .code yX3_whose cX3_whose 2 (some .int) :: ([.classLink RX3 23 "java/lang/IllegalArgumentException", .initialized "java/lang/IllegalArgumentException", .fieldLink RX3 10 "LoafMarks" "town" "LLoafMarks$Town;", .methodLink RX3 19 yX3_isWithin, .static yX3_isWithin, .initialized RX3, .code yX3_isWithin cX3_isWithin 3 (some .boolean), .methodLink RX3 75 yX2_bakerWithMark, .instanceMethod yX2_bakerWithMark, .selects RX2 yX2_bakerWithMark yX2_bakerWithMark, .initialized RX2, .code yX2_bakerWithMark cX2_bakerWithMark 4 (some .int), .fieldLink RX2 23 "LoafMarks$Town" "bakers" "[LLoafMarks$Baker;", .fieldLink RX2 78 "LoafMarks$Baker" "mark" "I"] ++ wsX30 ++ wsX20 ++ wsX00 ++ (vx_atS RX3 27 "java/lang/IllegalArgumentException" ["java/lang/RuntimeException", "java/lang/Exception"]).filter goodWord)
def wsX3_count_r1 : List Cond := [Cond.classLink RX3 34 "java/lang/IndexOutOfBoundsException", Cond.initialized "java/lang/IndexOutOfBoundsException", Cond.fieldLink RX3 10 "LoafMarks" "town" "LLoafMarks$Town;", Cond.methodLink RX3 19 yX3_isWithin, Cond.static yX3_isWithin, Cond.initialized RX3, Cond.code yX3_isWithin cX3_isWithin 3 (some .boolean), Cond.methodLink RX3 122 yX2_fact, Cond.instanceMethod yX2_fact, Cond.selects RX2 yX2_fact yX2_fact, Cond.initialized RX2, Cond.code yX2_fact cX2_fact 2 (some .int), Cond.fieldLink RX2 31 "LoafMarks$Town" "hour" "I", Cond.fieldLink RX2 27 "LoafMarks$Town" "people" "I", Cond.fieldLink RX2 34 "LoafMarks$Town" "bought" "I", Cond.fieldLink RX2 37 "LoafMarks$Town" "light" "I", Cond.fieldLink RX2 40 "LoafMarks$Town" "hungry" "I", Cond.fieldLink RX2 43 "LoafMarks$Town" "lost" "I", Cond.methodLink RX2 85 yX2_hourOfDay, Cond.instanceMethod yX2_hourOfDay, Cond.selects RX2 yX2_hourOfDay yX2_hourOfDay, Cond.code yX2_hourOfDay cX2_hourOfDay 1 (some .int), Cond.methodLink RX2 104 yJ9_floorMod_7cf53, Cond.static yJ9_floorMod_7cf53]
def wsX3_count_r2 : List Cond := [Cond.initialized RJ9, Cond.code yJ9_floorMod_7cf53 cJ9_floorMod_7cf53 3 (some .int), Cond.methodLink RX2 161 yX2_flourOfAll, Cond.instanceMethod yX2_flourOfAll, Cond.selects RX2 yX2_flourOfAll yX2_flourOfAll, Cond.code yX2_flourOfAll cX2_flourOfAll 6 (some .int), Cond.fieldLink RX2 17 "LoafMarks$Town" "stores" "[LLoafMarks$Store;", Cond.fieldLink RX2 117 "LoafMarks$Store" "flour" "I", Cond.methodLink RX2 164 yX2_loavesOfAll, Cond.instanceMethod yX2_loavesOfAll, Cond.selects RX2 yX2_loavesOfAll yX2_loavesOfAll, Cond.code yX2_loavesOfAll cX2_loavesOfAll 6 (some .int), Cond.fieldLink RX2 23 "LoafMarks$Town" "bakers" "[LLoafMarks$Baker;", Cond.fieldLink RX2 152 "LoafMarks$Baker" "shelf" "I", Cond.methodLink RX2 167 yX2_barredBakers, Cond.instanceMethod yX2_barredBakers, Cond.selects RX2 yX2_barredBakers yX2_barredBakers, Cond.code yX2_barredBakers cX2_barredBakers 6 (some .int), Cond.fieldLink RX2 120 "LoafMarks$Baker" "barred" "Z"]
def wsX3_count : List Cond := .code yX3_count cX3_count 2 (some .int) :: ((wsX3_count_r1 ++ wsX3_count_r2) ++ wsX30 ++ wsX20 ++ wsX10 ++ wsX00 ++ (vx_atS RX3 38 "java/lang/IndexOutOfBoundsException" ["java/lang/RuntimeException", "java/lang/Exception"]).filter goodWord)
def wsX3_pass_r1 : List Cond := [Cond.classLink RX3 23 "java/lang/IllegalArgumentException", Cond.initialized "java/lang/IllegalArgumentException", Cond.fieldLink RX3 10 "LoafMarks" "town" "LLoafMarks$Town;", Cond.methodLink RX3 19 yX3_isWithin, Cond.static yX3_isWithin, Cond.initialized RX3, Cond.code yX3_isWithin cX3_isWithin 3 (some .boolean), Cond.methodLink RX3 125 yX2_goThrough, Cond.instanceMethod yX2_goThrough, Cond.selects RX2 yX2_goThrough yX2_goThrough, Cond.initialized RX2, Cond.code yX2_goThrough cX2_goThrough 4 (some .int), Cond.methodLink RX2 81 yX2_goThroughHour, Cond.instanceMethod yX2_goThroughHour, Cond.selects RX2 yX2_goThroughHour yX2_goThroughHour, Cond.code yX2_goThroughHour cX2_goThroughHour 3 (some .int), Cond.fieldLink RX2 31 "LoafMarks$Town" "hour" "I", Cond.methodLink RX2 85 yX2_hourOfDay, Cond.instanceMethod yX2_hourOfDay, Cond.selects RX2 yX2_hourOfDay yX2_hourOfDay, Cond.code yX2_hourOfDay cX2_hourOfDay 1 (some .int), Cond.methodLink RX2 104 yJ9_floorMod_7cf53, Cond.static yJ9_floorMod_7cf53, Cond.initialized RJ9]
def wsX3_pass_r2 : List Cond := [Cond.code yJ9_floorMod_7cf53 cJ9_floorMod_7cf53 3 (some .int), Cond.methodLink RX2 46 yX2_gateAt, Cond.instanceMethod yX2_gateAt, Cond.selects RX2 yX2_gateAt yX2_gateAt, Cond.code yX2_gateAt cX2_gateAt 2 (some .int), Cond.fieldLink RX2 9 "LoafMarks$Town" "gate" "[I", Cond.methodLink RX2 88 yX2_unloadCarts, Cond.instanceMethod yX2_unloadCarts, Cond.selects RX2 yX2_unloadCarts yX2_unloadCarts, Cond.code yX2_unloadCarts cX2_unloadCarts 3 none, Cond.fieldLink RX2 43 "LoafMarks$Town" "lost" "I", Cond.methodLink RX2 110 yX2_emptiestStore, Cond.instanceMethod yX2_emptiestStore, Cond.selects RX2 yX2_emptiestStore yX2_emptiestStore, Cond.code yX2_emptiestStore cX2_emptiestStore 6 (some (.object "LoafMarks$Store")), Cond.fieldLink RX2 17 "LoafMarks$Town" "stores" "[LLoafMarks$Store;", Cond.fieldLink RX2 117 "LoafMarks$Store" "flour" "I", Cond.methodLink RX2 114 yX1_takeIn, Cond.instanceMethod yX1_takeIn, Cond.selects RX1 yX1_takeIn yX1_takeIn, Cond.initialized RX1, Cond.code yX1_takeIn cX1_takeIn 3 (some .int), Cond.fieldLink RX1 9 "LoafMarks$Store" "flour" "I", Cond.methodLink RX1 21 Lib.Math.min.name]
def wsX3_pass_r3 : List Cond := [Cond.static Lib.Math.min.name, Cond.initialized "java/lang/Math", Cond.code Lib.Math.min.name Lib.Math.min.code 2 (some .int), Cond.methodLink RX2 92 yX2_dealRations, Cond.instanceMethod yX2_dealRations, Cond.selects RX2 yX2_dealRations yX2_dealRations, Cond.code yX2_dealRations cX2_dealRations 6 none, Cond.fieldLink RX2 23 "LoafMarks$Town" "bakers" "[LLoafMarks$Baker;", Cond.fieldLink RX2 120 "LoafMarks$Baker" "barred" "Z", Cond.fieldLink RX2 124 "LoafMarks$Baker" "storeNumber" "I", Cond.fieldLink RX2 127 "LoafMarks$Baker" "atHand" "I", Cond.fieldLink RX2 130 "LoafMarks$Baker" "ration" "I", Cond.methodLink RX2 57 yX2_storeAt, Cond.instanceMethod yX2_storeAt, Cond.selects RX2 yX2_storeAt yX2_storeAt, Cond.code yX2_storeAt cX2_storeAt 2 (some (.object "LoafMarks$Store")), Cond.methodLink RX2 133 yX1_giveOut, Cond.instanceMethod yX1_giveOut, Cond.selects RX1 yX1_giveOut yX1_giveOut, Cond.code yX1_giveOut cX1_giveOut 3 (some .int), Cond.methodLink RX2 95 yX2_feedAllWeevils, Cond.instanceMethod yX2_feedAllWeevils, Cond.selects RX2 yX2_feedAllWeevils yX2_feedAllWeevils, Cond.code yX2_feedAllWeevils cX2_feedAllWeevils 5 none]
def wsX3_pass_r4 : List Cond := [Cond.methodLink RX2 136 yX1_feedWeevils, Cond.instanceMethod yX1_feedWeevils, Cond.selects RX1 yX1_feedWeevils yX1_feedWeevils, Cond.code yX1_feedWeevils cX1_feedWeevils 1 none, Cond.fieldLink RX1 18 "LoafMarks$Store" "eaten" "I", Cond.fieldLink RX1 15 "LoafMarks$Store" "weevils" "I", Cond.methodLink RX1 27 yX1_giveOut, Cond.methodLink RX2 98 yX2_bakeAll, Cond.instanceMethod yX2_bakeAll, Cond.selects RX2 yX2_bakeAll yX2_bakeAll, Cond.code yX2_bakeAll cX2_bakeAll 5 none, Cond.methodLink RX2 139 yX0_bake, Cond.instanceMethod yX0_bake, Cond.selects RX0 yX0_bake yX0_bake, Cond.initialized RX0, Cond.code yX0_bake cX0_bake 2 none, Cond.fieldLink RX0 33 "LoafMarks$Baker" "barred" "Z", Cond.fieldLink RX0 18 "LoafMarks$Baker" "weight" "I", Cond.fieldLink RX0 24 "LoafMarks$Baker" "atHand" "I", Cond.methodLink RX0 37 Lib.Math.min.name, Cond.fieldLink RX0 27 "LoafMarks$Baker" "shelf" "I", Cond.methodLink RX2 101 yX2_sellAtNoon, Cond.instanceMethod yX2_sellAtNoon, Cond.selects RX2 yX2_sellAtNoon yX2_sellAtNoon]
def wsX3_pass_r5 : List Cond := [Cond.code yX2_sellAtNoon cX2_sellAtNoon 7 (some .int), Cond.fieldLink RX2 27 "LoafMarks$Town" "people" "I", Cond.fieldLink RX2 34 "LoafMarks$Town" "bought" "I", Cond.fieldLink RX2 37 "LoafMarks$Town" "light" "I", Cond.fieldLink RX2 40 "LoafMarks$Town" "hungry" "I", Cond.methodLink RX2 142 yX0_sell, Cond.instanceMethod yX0_sell, Cond.selects RX0 yX0_sell yX0_sell, Cond.code yX0_sell cX0_sell 3 (some .int), Cond.fieldLink RX0 30 "LoafMarks$Baker" "sold" "I", Cond.methodLink RX2 145 yX0_bakesLight, Cond.instanceMethod yX0_bakesLight, Cond.selects RX0 yX0_bakesLight yX0_bakesLight, Cond.code yX0_bakesLight cX0_bakesLight 1 (some .boolean)]
def wsX3_pass : List Cond := .code yX3_pass cX3_pass 2 (some .int) :: ((wsX3_pass_r1 ++ (wsX3_pass_r2 ++ (wsX3_pass_r3 ++ (wsX3_pass_r4 ++ wsX3_pass_r5)))) ++ wsX30 ++ wsX20 ++ wsX10 ++ wsX00 ++ (vx_atS RX3 27 "java/lang/IllegalArgumentException" ["java/lang/RuntimeException", "java/lang/Exception"]).filter goodWord)
def wsX3_lasts_r1 : List Cond := [Cond.fieldLink RX3 16 "LoafMarks" "trial" "LLoafMarks$Town;", Cond.fieldLink RX3 10 "LoafMarks" "town" "LLoafMarks$Town;", Cond.methodLink RX3 128 yX2_becomeLike, Cond.instanceMethod yX2_becomeLike, Cond.selects RX2 yX2_becomeLike yX2_becomeLike, Cond.initialized RX2, Cond.code yX2_becomeLike cX2_becomeLike 3 none, Cond.fieldLink RX2 31 "LoafMarks$Town" "hour" "I", Cond.fieldLink RX2 27 "LoafMarks$Town" "people" "I", Cond.fieldLink RX2 34 "LoafMarks$Town" "bought" "I", Cond.fieldLink RX2 37 "LoafMarks$Town" "light" "I", Cond.fieldLink RX2 40 "LoafMarks$Town" "hungry" "I", Cond.fieldLink RX2 43 "LoafMarks$Town" "lost" "I", Cond.fieldLink RX2 9 "LoafMarks$Town" "gate" "[I", Cond.methodLink RX2 46 yX2_gateAt, Cond.instanceMethod yX2_gateAt, Cond.selects RX2 yX2_gateAt yX2_gateAt, Cond.code yX2_gateAt cX2_gateAt 2 (some .int), Cond.methodLink RX2 50 yX2_copyStores, Cond.instanceMethod yX2_copyStores, Cond.selects RX2 yX2_copyStores yX2_copyStores, Cond.code yX2_copyStores cX2_copyStores 5 none, Cond.fieldLink RX2 17 "LoafMarks$Town" "stores" "[LLoafMarks$Store;", Cond.classLink RX2 15 RX1]
def wsX3_lasts_r2 : List Cond := [Cond.instantiable RX1 3, Cond.initialized RX1, Cond.methodLink RX2 57 yX2_storeAt, Cond.instanceMethod yX2_storeAt, Cond.selects RX2 yX2_storeAt yX2_storeAt, Cond.code yX2_storeAt cX2_storeAt 2 (some (.object "LoafMarks$Store")), Cond.methodLink RX2 61 yX1_init, Cond.instanceMethod yX1_init, Cond.code yX1_init cX1_init 3 none, Cond.methodLink RX1 3 objectInit, Cond.instanceMethod objectInit, Cond.code objectInit ⟨#[0xb1]⟩ 1 none, Cond.fieldLink RX1 9 "LoafMarks$Store" "flour" "I", Cond.fieldLink RX1 15 "LoafMarks$Store" "weevils" "I", Cond.methodLink RX2 64 yX1_becomeLike, Cond.instanceMethod yX1_becomeLike, Cond.selects RX1 yX1_becomeLike yX1_becomeLike, Cond.code yX1_becomeLike cX1_becomeLike 2 none, Cond.fieldLink RX1 18 "LoafMarks$Store" "eaten" "I", Cond.methodLink RX2 54 yX2_copyBakers, Cond.instanceMethod yX2_copyBakers, Cond.selects RX2 yX2_copyBakers yX2_copyBakers, Cond.code yX2_copyBakers cX2_copyBakers 5 none, Cond.fieldLink RX2 23 "LoafMarks$Town" "bakers" "[LLoafMarks$Baker;"]
def wsX3_lasts_r3 : List Cond := [Cond.classLink RX2 21 RX0, Cond.instantiable RX0 8, Cond.initialized RX0, Cond.methodLink RX2 68 yX2_bakerAt, Cond.instanceMethod yX2_bakerAt, Cond.selects RX2 yX2_bakerAt yX2_bakerAt, Cond.code yX2_bakerAt cX2_bakerAt 2 (some (.object "LoafMarks$Baker")), Cond.methodLink RX2 72 yX0_init, Cond.instanceMethod yX0_init, Cond.code yX0_init cX0_init 5 none, Cond.methodLink RX0 3 objectInit, Cond.fieldLink RX0 9 "LoafMarks$Baker" "storeNumber" "I", Cond.fieldLink RX0 15 "LoafMarks$Baker" "mark" "I", Cond.fieldLink RX0 18 "LoafMarks$Baker" "weight" "I", Cond.fieldLink RX0 21 "LoafMarks$Baker" "ration" "I", Cond.methodLink RX2 75 yX0_becomeLike, Cond.instanceMethod yX0_becomeLike, Cond.selects RX0 yX0_becomeLike yX0_becomeLike, Cond.code yX0_becomeLike cX0_becomeLike 2 none, Cond.fieldLink RX0 24 "LoafMarks$Baker" "atHand" "I", Cond.fieldLink RX0 27 "LoafMarks$Baker" "shelf" "I", Cond.fieldLink RX0 30 "LoafMarks$Baker" "sold" "I", Cond.fieldLink RX0 33 "LoafMarks$Baker" "barred" "Z", Cond.methodLink RX3 132 yX2_goThroughHour]
def wsX3_lasts_r4 : List Cond := [Cond.instanceMethod yX2_goThroughHour, Cond.selects RX2 yX2_goThroughHour yX2_goThroughHour, Cond.code yX2_goThroughHour cX2_goThroughHour 3 (some .int), Cond.methodLink RX2 85 yX2_hourOfDay, Cond.instanceMethod yX2_hourOfDay, Cond.selects RX2 yX2_hourOfDay yX2_hourOfDay, Cond.code yX2_hourOfDay cX2_hourOfDay 1 (some .int), Cond.methodLink RX2 104 yJ9_floorMod_7cf53, Cond.static yJ9_floorMod_7cf53, Cond.initialized RJ9, Cond.code yJ9_floorMod_7cf53 cJ9_floorMod_7cf53 3 (some .int), Cond.methodLink RX2 88 yX2_unloadCarts, Cond.instanceMethod yX2_unloadCarts, Cond.selects RX2 yX2_unloadCarts yX2_unloadCarts, Cond.code yX2_unloadCarts cX2_unloadCarts 3 none, Cond.methodLink RX2 110 yX2_emptiestStore, Cond.instanceMethod yX2_emptiestStore, Cond.selects RX2 yX2_emptiestStore yX2_emptiestStore, Cond.code yX2_emptiestStore cX2_emptiestStore 6 (some (.object "LoafMarks$Store")), Cond.fieldLink RX2 117 "LoafMarks$Store" "flour" "I", Cond.methodLink RX2 114 yX1_takeIn, Cond.instanceMethod yX1_takeIn, Cond.selects RX1 yX1_takeIn yX1_takeIn, Cond.code yX1_takeIn cX1_takeIn 3 (some .int)]
def wsX3_lasts_r5 : List Cond := [Cond.methodLink RX1 21 Lib.Math.min.name, Cond.static Lib.Math.min.name, Cond.initialized "java/lang/Math", Cond.code Lib.Math.min.name Lib.Math.min.code 2 (some .int), Cond.methodLink RX2 92 yX2_dealRations, Cond.instanceMethod yX2_dealRations, Cond.selects RX2 yX2_dealRations yX2_dealRations, Cond.code yX2_dealRations cX2_dealRations 6 none, Cond.fieldLink RX2 120 "LoafMarks$Baker" "barred" "Z", Cond.fieldLink RX2 124 "LoafMarks$Baker" "storeNumber" "I", Cond.fieldLink RX2 127 "LoafMarks$Baker" "atHand" "I", Cond.fieldLink RX2 130 "LoafMarks$Baker" "ration" "I", Cond.methodLink RX2 133 yX1_giveOut, Cond.instanceMethod yX1_giveOut, Cond.selects RX1 yX1_giveOut yX1_giveOut, Cond.code yX1_giveOut cX1_giveOut 3 (some .int), Cond.methodLink RX2 95 yX2_feedAllWeevils, Cond.instanceMethod yX2_feedAllWeevils, Cond.selects RX2 yX2_feedAllWeevils yX2_feedAllWeevils, Cond.code yX2_feedAllWeevils cX2_feedAllWeevils 5 none, Cond.methodLink RX2 136 yX1_feedWeevils, Cond.instanceMethod yX1_feedWeevils, Cond.selects RX1 yX1_feedWeevils yX1_feedWeevils, Cond.code yX1_feedWeevils cX1_feedWeevils 1 none]
def wsX3_lasts_r6 : List Cond := [Cond.methodLink RX1 27 yX1_giveOut, Cond.methodLink RX2 98 yX2_bakeAll, Cond.instanceMethod yX2_bakeAll, Cond.selects RX2 yX2_bakeAll yX2_bakeAll, Cond.code yX2_bakeAll cX2_bakeAll 5 none, Cond.methodLink RX2 139 yX0_bake, Cond.instanceMethod yX0_bake, Cond.selects RX0 yX0_bake yX0_bake, Cond.code yX0_bake cX0_bake 2 none, Cond.methodLink RX0 37 Lib.Math.min.name, Cond.methodLink RX2 101 yX2_sellAtNoon, Cond.instanceMethod yX2_sellAtNoon, Cond.selects RX2 yX2_sellAtNoon yX2_sellAtNoon, Cond.code yX2_sellAtNoon cX2_sellAtNoon 7 (some .int), Cond.methodLink RX2 142 yX0_sell, Cond.instanceMethod yX0_sell, Cond.selects RX0 yX0_sell yX0_sell, Cond.code yX0_sell cX0_sell 3 (some .int), Cond.methodLink RX2 145 yX0_bakesLight, Cond.instanceMethod yX0_bakesLight, Cond.selects RX0 yX0_bakesLight yX0_bakesLight, Cond.code yX0_bakesLight cX0_bakesLight 1 (some .boolean)]
def wsX3_lasts : List Cond := .code yX3_lasts cX3_lasts 2 (some .int) :: ((wsX3_lasts_r1 ++ (wsX3_lasts_r2 ++ (wsX3_lasts_r3 ++ (wsX3_lasts_r4 ++ (wsX3_lasts_r5 ++ wsX3_lasts_r6))))) ++ wsX30 ++ wsX20 ++ wsX10 ++ wsX00)
def wsX3_foresee_r1 : List Cond := [Cond.classLink RX3 23 "java/lang/IllegalArgumentException", Cond.initialized "java/lang/IllegalArgumentException", Cond.classLink RX3 34 "java/lang/IndexOutOfBoundsException", Cond.initialized "java/lang/IndexOutOfBoundsException", Cond.fieldLink RX3 16 "LoafMarks" "trial" "LLoafMarks$Town;", Cond.fieldLink RX3 10 "LoafMarks" "town" "LLoafMarks$Town;", Cond.methodLink RX3 19 yX3_isWithin, Cond.static yX3_isWithin, Cond.initialized RX3, Cond.code yX3_isWithin cX3_isWithin 3 (some .boolean), Cond.methodLink RX3 128 yX2_becomeLike, Cond.instanceMethod yX2_becomeLike, Cond.selects RX2 yX2_becomeLike yX2_becomeLike, Cond.initialized RX2, Cond.code yX2_becomeLike cX2_becomeLike 3 none, Cond.fieldLink RX2 31 "LoafMarks$Town" "hour" "I", Cond.fieldLink RX2 27 "LoafMarks$Town" "people" "I", Cond.fieldLink RX2 34 "LoafMarks$Town" "bought" "I", Cond.fieldLink RX2 37 "LoafMarks$Town" "light" "I", Cond.fieldLink RX2 40 "LoafMarks$Town" "hungry" "I", Cond.fieldLink RX2 43 "LoafMarks$Town" "lost" "I", Cond.fieldLink RX2 9 "LoafMarks$Town" "gate" "[I", Cond.methodLink RX2 46 yX2_gateAt, Cond.instanceMethod yX2_gateAt]
def wsX3_foresee_r2 : List Cond := [Cond.selects RX2 yX2_gateAt yX2_gateAt, Cond.code yX2_gateAt cX2_gateAt 2 (some .int), Cond.methodLink RX2 50 yX2_copyStores, Cond.instanceMethod yX2_copyStores, Cond.selects RX2 yX2_copyStores yX2_copyStores, Cond.code yX2_copyStores cX2_copyStores 5 none, Cond.fieldLink RX2 17 "LoafMarks$Town" "stores" "[LLoafMarks$Store;", Cond.classLink RX2 15 RX1, Cond.instantiable RX1 3, Cond.initialized RX1, Cond.methodLink RX2 57 yX2_storeAt, Cond.instanceMethod yX2_storeAt, Cond.selects RX2 yX2_storeAt yX2_storeAt, Cond.code yX2_storeAt cX2_storeAt 2 (some (.object "LoafMarks$Store")), Cond.methodLink RX2 61 yX1_init, Cond.instanceMethod yX1_init, Cond.code yX1_init cX1_init 3 none, Cond.methodLink RX1 3 objectInit, Cond.instanceMethod objectInit, Cond.code objectInit ⟨#[0xb1]⟩ 1 none, Cond.fieldLink RX1 9 "LoafMarks$Store" "flour" "I", Cond.fieldLink RX1 15 "LoafMarks$Store" "weevils" "I", Cond.methodLink RX2 64 yX1_becomeLike, Cond.instanceMethod yX1_becomeLike]
def wsX3_foresee_r3 : List Cond := [Cond.selects RX1 yX1_becomeLike yX1_becomeLike, Cond.code yX1_becomeLike cX1_becomeLike 2 none, Cond.fieldLink RX1 18 "LoafMarks$Store" "eaten" "I", Cond.methodLink RX2 54 yX2_copyBakers, Cond.instanceMethod yX2_copyBakers, Cond.selects RX2 yX2_copyBakers yX2_copyBakers, Cond.code yX2_copyBakers cX2_copyBakers 5 none, Cond.fieldLink RX2 23 "LoafMarks$Town" "bakers" "[LLoafMarks$Baker;", Cond.classLink RX2 21 RX0, Cond.instantiable RX0 8, Cond.initialized RX0, Cond.methodLink RX2 68 yX2_bakerAt, Cond.instanceMethod yX2_bakerAt, Cond.selects RX2 yX2_bakerAt yX2_bakerAt, Cond.code yX2_bakerAt cX2_bakerAt 2 (some (.object "LoafMarks$Baker")), Cond.methodLink RX2 72 yX0_init, Cond.instanceMethod yX0_init, Cond.code yX0_init cX0_init 5 none, Cond.methodLink RX0 3 objectInit, Cond.fieldLink RX0 9 "LoafMarks$Baker" "storeNumber" "I", Cond.fieldLink RX0 15 "LoafMarks$Baker" "mark" "I", Cond.fieldLink RX0 18 "LoafMarks$Baker" "weight" "I", Cond.fieldLink RX0 21 "LoafMarks$Baker" "ration" "I", Cond.methodLink RX2 75 yX0_becomeLike]
def wsX3_foresee_r4 : List Cond := [Cond.instanceMethod yX0_becomeLike, Cond.selects RX0 yX0_becomeLike yX0_becomeLike, Cond.code yX0_becomeLike cX0_becomeLike 2 none, Cond.fieldLink RX0 24 "LoafMarks$Baker" "atHand" "I", Cond.fieldLink RX0 27 "LoafMarks$Baker" "shelf" "I", Cond.fieldLink RX0 30 "LoafMarks$Baker" "sold" "I", Cond.fieldLink RX0 33 "LoafMarks$Baker" "barred" "Z", Cond.methodLink RX3 125 yX2_goThrough, Cond.instanceMethod yX2_goThrough, Cond.selects RX2 yX2_goThrough yX2_goThrough, Cond.code yX2_goThrough cX2_goThrough 4 (some .int), Cond.methodLink RX2 81 yX2_goThroughHour, Cond.instanceMethod yX2_goThroughHour, Cond.selects RX2 yX2_goThroughHour yX2_goThroughHour, Cond.code yX2_goThroughHour cX2_goThroughHour 3 (some .int), Cond.methodLink RX2 85 yX2_hourOfDay, Cond.instanceMethod yX2_hourOfDay, Cond.selects RX2 yX2_hourOfDay yX2_hourOfDay, Cond.code yX2_hourOfDay cX2_hourOfDay 1 (some .int), Cond.methodLink RX2 104 yJ9_floorMod_7cf53, Cond.static yJ9_floorMod_7cf53, Cond.initialized RJ9, Cond.code yJ9_floorMod_7cf53 cJ9_floorMod_7cf53 3 (some .int), Cond.methodLink RX2 88 yX2_unloadCarts]
def wsX3_foresee_r5 : List Cond := [Cond.instanceMethod yX2_unloadCarts, Cond.selects RX2 yX2_unloadCarts yX2_unloadCarts, Cond.code yX2_unloadCarts cX2_unloadCarts 3 none, Cond.methodLink RX2 110 yX2_emptiestStore, Cond.instanceMethod yX2_emptiestStore, Cond.selects RX2 yX2_emptiestStore yX2_emptiestStore, Cond.code yX2_emptiestStore cX2_emptiestStore 6 (some (.object "LoafMarks$Store")), Cond.fieldLink RX2 117 "LoafMarks$Store" "flour" "I", Cond.methodLink RX2 114 yX1_takeIn, Cond.instanceMethod yX1_takeIn, Cond.selects RX1 yX1_takeIn yX1_takeIn, Cond.code yX1_takeIn cX1_takeIn 3 (some .int), Cond.methodLink RX1 21 Lib.Math.min.name, Cond.static Lib.Math.min.name, Cond.initialized "java/lang/Math", Cond.code Lib.Math.min.name Lib.Math.min.code 2 (some .int), Cond.methodLink RX2 92 yX2_dealRations, Cond.instanceMethod yX2_dealRations, Cond.selects RX2 yX2_dealRations yX2_dealRations, Cond.code yX2_dealRations cX2_dealRations 6 none, Cond.fieldLink RX2 120 "LoafMarks$Baker" "barred" "Z", Cond.fieldLink RX2 124 "LoafMarks$Baker" "storeNumber" "I", Cond.fieldLink RX2 127 "LoafMarks$Baker" "atHand" "I", Cond.fieldLink RX2 130 "LoafMarks$Baker" "ration" "I"]
def wsX3_foresee_r6 : List Cond := [Cond.methodLink RX2 133 yX1_giveOut, Cond.instanceMethod yX1_giveOut, Cond.selects RX1 yX1_giveOut yX1_giveOut, Cond.code yX1_giveOut cX1_giveOut 3 (some .int), Cond.methodLink RX2 95 yX2_feedAllWeevils, Cond.instanceMethod yX2_feedAllWeevils, Cond.selects RX2 yX2_feedAllWeevils yX2_feedAllWeevils, Cond.code yX2_feedAllWeevils cX2_feedAllWeevils 5 none, Cond.methodLink RX2 136 yX1_feedWeevils, Cond.instanceMethod yX1_feedWeevils, Cond.selects RX1 yX1_feedWeevils yX1_feedWeevils, Cond.code yX1_feedWeevils cX1_feedWeevils 1 none, Cond.methodLink RX1 27 yX1_giveOut, Cond.methodLink RX2 98 yX2_bakeAll, Cond.instanceMethod yX2_bakeAll, Cond.selects RX2 yX2_bakeAll yX2_bakeAll, Cond.code yX2_bakeAll cX2_bakeAll 5 none, Cond.methodLink RX2 139 yX0_bake, Cond.instanceMethod yX0_bake, Cond.selects RX0 yX0_bake yX0_bake, Cond.code yX0_bake cX0_bake 2 none, Cond.methodLink RX0 37 Lib.Math.min.name, Cond.methodLink RX2 101 yX2_sellAtNoon, Cond.instanceMethod yX2_sellAtNoon]
def wsX3_foresee_r7 : List Cond := [Cond.selects RX2 yX2_sellAtNoon yX2_sellAtNoon, Cond.code yX2_sellAtNoon cX2_sellAtNoon 7 (some .int), Cond.methodLink RX2 142 yX0_sell, Cond.instanceMethod yX0_sell, Cond.selects RX0 yX0_sell yX0_sell, Cond.code yX0_sell cX0_sell 3 (some .int), Cond.methodLink RX2 145 yX0_bakesLight, Cond.instanceMethod yX0_bakesLight, Cond.selects RX0 yX0_bakesLight yX0_bakesLight, Cond.code yX0_bakesLight cX0_bakesLight 1 (some .boolean), Cond.methodLink RX3 135 yX2_flourOfAll, Cond.instanceMethod yX2_flourOfAll, Cond.selects RX2 yX2_flourOfAll yX2_flourOfAll, Cond.code yX2_flourOfAll cX2_flourOfAll 6 (some .int), Cond.methodLink RX3 138 yX2_loavesOfAll, Cond.instanceMethod yX2_loavesOfAll, Cond.selects RX2 yX2_loavesOfAll yX2_loavesOfAll, Cond.code yX2_loavesOfAll cX2_loavesOfAll 6 (some .int), Cond.fieldLink RX2 152 "LoafMarks$Baker" "shelf" "I", Cond.methodLink RX3 141 yX2_weevilsOfAll, Cond.instanceMethod yX2_weevilsOfAll, Cond.selects RX2 yX2_weevilsOfAll yX2_weevilsOfAll, Cond.code yX2_weevilsOfAll cX2_weevilsOfAll 6 (some .int), Cond.fieldLink RX2 149 "LoafMarks$Store" "weevils" "I"]
def wsX3_foresee : List Cond := .code yX3_foresee cX3_foresee 4 (some .int) :: ((wsX3_foresee_r1 ++ (wsX3_foresee_r2 ++ (wsX3_foresee_r3 ++ (wsX3_foresee_r4 ++ (wsX3_foresee_r5 ++ (wsX3_foresee_r6 ++ wsX3_foresee_r7)))))) ++ wsX30 ++ wsX20 ++ wsX10 ++ wsX00 ++ (vx_atS RX3 27 "java/lang/IllegalArgumentException" ["java/lang/RuntimeException", "java/lang/Exception"]).filter goodWord ++ (vx_atS RX3 38 "java/lang/IndexOutOfBoundsException" ["java/lang/RuntimeException", "java/lang/Exception"]).filter goodWord)
def wsX3_share : List Cond := .code yX3_share cX3_share 1 (some .double) :: ([.fieldLink RX3 10 "LoafMarks" "town" "LLoafMarks$Town;", .fieldLink RX3 150 "LoafMarks$Town" "bought" "I", .fieldLink RX3 153 "LoafMarks$Town" "light" "I"] ++ wsX30 ++ wsX20)
def wsX4_init : List Cond := .code yX4_init cX4_init 1 none :: ([.methodLink RX4 1 objectInit, .instanceMethod objectInit, .code objectInit ⟨#[0xb1]⟩ 1 none, .fieldLink RX4 7 "LoafMarksLaw$Sim" "people" "I", .arrayClass .int, .fieldLink RX4 13 "LoafMarksLaw$Sim" "gate" "[I", .classLink RX4 17 "[I", .fieldLink RX4 18 "LoafMarksLaw$Sim" "stores" "[[I", .fieldLink RX4 22 "LoafMarksLaw$Sim" "bakers" "[[I"] ++ wsX40)
def wsX4_more : List Cond := .code yX4_more cX4_more 4 (some (.array (.array .int))) :: ([.classLink RX4 17 "[I"])
def wsX4_owner : List Cond := .code yX4_owner cX4_owner 3 (some .int) :: ([.fieldLink RX4 22 "LoafMarksLaw$Sim" "bakers" "[[I"] ++ wsX40)
def wsX4_pass : List Cond := .code yX4_pass cX4_pass 9 (some .int) :: ([.fieldLink RX4 30 "LoafMarksLaw$Sim" "hour" "I", .fieldLink RX4 18 "LoafMarksLaw$Sim" "stores" "[[I", .fieldLink RX4 13 "LoafMarksLaw$Sim" "gate" "[I", .fieldLink RX4 33 "LoafMarksLaw$Sim" "lost" "I", .fieldLink RX4 22 "LoafMarksLaw$Sim" "bakers" "[[I", .fieldLink RX4 7 "LoafMarksLaw$Sim" "people" "I", .fieldLink RX4 36 "LoafMarksLaw$Sim" "all" "I", .fieldLink RX4 39 "LoafMarksLaw$Sim" "light" "I", .fieldLink RX4 42 "LoafMarksLaw$Sim" "hungry" "I"] ++ wsX40)
def wsX4_stored : List Cond := .code yX4_stored cX4_stored 7 (some .int) :: ([.fieldLink RX4 18 "LoafMarksLaw$Sim" "stores" "[[I"] ++ wsX40)
def wsX4_baked : List Cond := .code yX4_baked cX4_baked 7 (some .int) :: ([.fieldLink RX4 22 "LoafMarksLaw$Sim" "bakers" "[[I"] ++ wsX40)
def wsX4_isSame_r1 : List Cond := [Cond.fieldLink RX4 18 "LoafMarksLaw$Sim" "stores" "[[I", Cond.fieldLink RX4 22 "LoafMarksLaw$Sim" "bakers" "[[I", Cond.arrayClass .int, Cond.fieldLink RX4 30 "LoafMarksLaw$Sim" "hour" "I", Cond.fieldLink RX4 7 "LoafMarksLaw$Sim" "people" "I", Cond.fieldLink RX4 36 "LoafMarksLaw$Sim" "all" "I", Cond.fieldLink RX4 39 "LoafMarksLaw$Sim" "light" "I", Cond.fieldLink RX4 42 "LoafMarksLaw$Sim" "hungry" "I", Cond.fieldLink RX4 33 "LoafMarksLaw$Sim" "lost" "I", Cond.methodLink RX4 45 yX3_store, Cond.instanceMethod yX3_store, Cond.selects RX3 yX3_store yX3_store, Cond.initialized RX3, Cond.code yX3_store cX3_store 3 (some .int), Cond.classLink RX3 34 "java/lang/IndexOutOfBoundsException", Cond.initialized "java/lang/IndexOutOfBoundsException", Cond.fieldLink RX3 10 "LoafMarks" "town" "LLoafMarks$Town;", Cond.methodLink RX3 57 yX2_storeAt, Cond.instanceMethod yX2_storeAt, Cond.selects RX2 yX2_storeAt yX2_storeAt, Cond.initialized RX2, Cond.code yX2_storeAt cX2_storeAt 2 (some (.object "LoafMarks$Store")), Cond.fieldLink RX2 17 "LoafMarks$Town" "stores" "[LLoafMarks$Store;", Cond.methodLink RX3 19 yX3_isWithin]
def wsX4_isSame_r2 : List Cond := [Cond.static yX3_isWithin, Cond.code yX3_isWithin cX3_isWithin 3 (some .boolean), Cond.methodLink RX3 112 yX2_storeFact, Cond.instanceMethod yX2_storeFact, Cond.selects RX2 yX2_storeFact yX2_storeFact, Cond.code yX2_storeFact cX2_storeFact 4 (some .int), Cond.fieldLink RX2 117 "LoafMarks$Store" "flour" "I", Cond.fieldLink RX2 149 "LoafMarks$Store" "weevils" "I", Cond.fieldLink RX2 158 "LoafMarks$Store" "eaten" "I", Cond.methodLink RX2 57 yX2_storeAt, Cond.methodLink RX2 155 yX2_bakersOfStore, Cond.instanceMethod yX2_bakersOfStore, Cond.selects RX2 yX2_bakersOfStore yX2_bakersOfStore, Cond.code yX2_bakersOfStore cX2_bakersOfStore 7 (some .int), Cond.fieldLink RX2 23 "LoafMarks$Town" "bakers" "[LLoafMarks$Baker;", Cond.fieldLink RX2 124 "LoafMarks$Baker" "storeNumber" "I", Cond.methodLink RX4 51 yX3_baker, Cond.instanceMethod yX3_baker, Cond.selects RX3 yX3_baker yX3_baker, Cond.code yX3_baker cX3_baker 4 (some .int), Cond.methodLink RX3 87 yX2_bakerAt, Cond.instanceMethod yX2_bakerAt, Cond.selects RX2 yX2_bakerAt yX2_bakerAt, Cond.code yX2_bakerAt cX2_bakerAt 2 (some (.object "LoafMarks$Baker"))]
def wsX4_isSame_r3 : List Cond := [Cond.methodLink RX3 117 yX0_fact, Cond.instanceMethod yX0_fact, Cond.selects RX0 yX0_fact yX0_fact, Cond.initialized RX0, Cond.code yX0_fact cX0_fact 2 (some .int), Cond.fieldLink RX0 9 "LoafMarks$Baker" "storeNumber" "I", Cond.fieldLink RX0 15 "LoafMarks$Baker" "mark" "I", Cond.fieldLink RX0 21 "LoafMarks$Baker" "ration" "I", Cond.fieldLink RX0 24 "LoafMarks$Baker" "atHand" "I", Cond.fieldLink RX0 18 "LoafMarks$Baker" "weight" "I", Cond.fieldLink RX0 27 "LoafMarks$Baker" "shelf" "I", Cond.fieldLink RX0 30 "LoafMarks$Baker" "sold" "I", Cond.fieldLink RX0 33 "LoafMarks$Baker" "barred" "Z", Cond.methodLink RX4 54 yX4_stored, Cond.instanceMethod yX4_stored, Cond.selects RX4 yX4_stored yX4_stored, Cond.initialized RX4, Cond.code yX4_stored cX4_stored 7 (some .int), Cond.methodLink RX4 58 yX4_baked, Cond.instanceMethod yX4_baked, Cond.selects RX4 yX4_baked yX4_baked, Cond.code yX4_baked cX4_baked 7 (some .int), Cond.methodLink RX4 61 yX3_count, Cond.instanceMethod yX3_count]
def wsX4_isSame_r4 : List Cond := [Cond.selects RX3 yX3_count yX3_count, Cond.code yX3_count cX3_count 2 (some .int), Cond.methodLink RX3 122 yX2_fact, Cond.instanceMethod yX2_fact, Cond.selects RX2 yX2_fact yX2_fact, Cond.code yX2_fact cX2_fact 2 (some .int), Cond.fieldLink RX2 31 "LoafMarks$Town" "hour" "I", Cond.fieldLink RX2 27 "LoafMarks$Town" "people" "I", Cond.fieldLink RX2 34 "LoafMarks$Town" "bought" "I", Cond.fieldLink RX2 37 "LoafMarks$Town" "light" "I", Cond.fieldLink RX2 40 "LoafMarks$Town" "hungry" "I", Cond.fieldLink RX2 43 "LoafMarks$Town" "lost" "I", Cond.methodLink RX2 85 yX2_hourOfDay, Cond.instanceMethod yX2_hourOfDay, Cond.selects RX2 yX2_hourOfDay yX2_hourOfDay, Cond.code yX2_hourOfDay cX2_hourOfDay 1 (some .int), Cond.methodLink RX2 104 yJ9_floorMod_7cf53, Cond.static yJ9_floorMod_7cf53, Cond.initialized RJ9, Cond.code yJ9_floorMod_7cf53 cJ9_floorMod_7cf53 3 (some .int), Cond.methodLink RX2 161 yX2_flourOfAll, Cond.instanceMethod yX2_flourOfAll, Cond.selects RX2 yX2_flourOfAll yX2_flourOfAll, Cond.code yX2_flourOfAll cX2_flourOfAll 6 (some .int)]
def wsX4_isSame_r5 : List Cond := [Cond.methodLink RX2 164 yX2_loavesOfAll, Cond.instanceMethod yX2_loavesOfAll, Cond.selects RX2 yX2_loavesOfAll yX2_loavesOfAll, Cond.code yX2_loavesOfAll cX2_loavesOfAll 6 (some .int), Cond.fieldLink RX2 152 "LoafMarks$Baker" "shelf" "I", Cond.methodLink RX2 167 yX2_barredBakers, Cond.instanceMethod yX2_barredBakers, Cond.selects RX2 yX2_barredBakers yX2_barredBakers, Cond.code yX2_barredBakers cX2_barredBakers 6 (some .int), Cond.fieldLink RX2 120 "LoafMarks$Baker" "barred" "Z", Cond.methodLink RX4 64 yX3_share, Cond.instanceMethod yX3_share, Cond.selects RX3 yX3_share yX3_share, Cond.code yX3_share cX3_share 1 (some .double), Cond.fieldLink RX3 150 "LoafMarks$Town" "bought" "I", Cond.fieldLink RX3 153 "LoafMarks$Town" "light" "I"]
def wsX4_isSame : List Cond := .code yX4_isSame cX4_isSame 8 (some .boolean) :: ((wsX4_isSame_r1 ++ (wsX4_isSame_r2 ++ (wsX4_isSame_r3 ++ (wsX4_isSame_r4 ++ wsX4_isSame_r5)))) ++ wsX40 ++ wsX30 ++ wsX20 ++ wsX10 ++ wsX00 ++ (vx_atS RX3 38 "java/lang/IndexOutOfBoundsException" ["java/lang/RuntimeException", "java/lang/Exception"]).filter goodWord)
def wsJ9_max_7cf53 : List Cond := .code yJ9_max_7cf53 cJ9_max_7cf53 2 (some .int) :: ([])
def wsJ9_min_7cf53 : List Cond := .code yJ9_min_7cf53 cJ9_min_7cf53 2 (some .int) :: ([])
def wsL_below : List Cond := .code yL_below cL_below 2 (some .int) :: ([.constant RL 7 (2147483647)])
def wsL_cell : List Cond := .code yL_cell cL_cell 2 (some .int) :: ([.constant RL 8 (790386105)])
def wsL_act_r1 : List Cond := [Cond.fieldLink RL 9 "LoafMarksLaw$Sim" "stores" "[[I", Cond.fieldLink RL 15 "LoafMarksLaw$Sim" "bakers" "[[I", Cond.arrayClass .int, Cond.fieldLink RL 41 "LoafMarksLaw$Sim" "people" "I", Cond.fieldLink RL 48 "LoafMarksLaw$Sim" "gate" "[I", Cond.methodLink RL 18 yL_below, Cond.static yL_below, Cond.initialized RL, Cond.code yL_below cL_below 2 (some .int), Cond.constant RL 7 (2147483647), Cond.methodLink RL 24 yX4_more, Cond.static yX4_more, Cond.initialized RX4, Cond.code yX4_more cX4_more 4 (some (.array (.array .int))), Cond.classLink RX4 17 "[I", Cond.methodLink RL 28 yX3_open, Cond.instanceMethod yX3_open, Cond.selects RX3 yX3_open yX3_open, Cond.initialized RX3, Cond.code yX3_open cX3_open 4 (some .int), Cond.classLink RX3 23 "java/lang/IllegalArgumentException", Cond.initialized "java/lang/IllegalArgumentException", Cond.classLink RX3 52 "java/lang/IllegalStateException", Cond.initialized "java/lang/IllegalStateException"]
def wsL_act_r2 : List Cond := [Cond.fieldLink RX3 10 "LoafMarks" "town" "LLoafMarks$Town;", Cond.methodLink RX3 19 yX3_isWithin, Cond.static yX3_isWithin, Cond.code yX3_isWithin cX3_isWithin 3 (some .boolean), Cond.methodLink RX3 49 yX2_addStore, Cond.instanceMethod yX2_addStore, Cond.selects RX2 yX2_addStore yX2_addStore, Cond.initialized RX2, Cond.code yX2_addStore cX2_addStore 4 (some .int), Cond.fieldLink RX2 17 "LoafMarks$Town" "stores" "[LLoafMarks$Store;", Cond.classLink RX2 15 RX1, Cond.instantiable RX1 3, Cond.initialized RX1, Cond.methodLink RX2 61 yX1_init, Cond.instanceMethod yX1_init, Cond.code yX1_init cX1_init 3 none, Cond.methodLink RX1 3 objectInit, Cond.instanceMethod objectInit, Cond.code objectInit ⟨#[0xb1]⟩ 1 none, Cond.fieldLink RX1 9 "LoafMarks$Store" "flour" "I", Cond.fieldLink RX1 15 "LoafMarks$Store" "weevils" "I", Cond.methodLink RL 33 yX4_owner, Cond.instanceMethod yX4_owner, Cond.selects RX4 yX4_owner yX4_owner]
def wsL_act_r3 : List Cond := [Cond.code yX4_owner cX4_owner 3 (some .int), Cond.fieldLink RX4 22 "LoafMarksLaw$Sim" "bakers" "[[I", Cond.methodLink RL 37 yX3_swear, Cond.instanceMethod yX3_swear, Cond.selects RX3 yX3_swear yX3_swear, Cond.code yX3_swear cX3_swear 6 (some .int), Cond.classLink RX3 34 "java/lang/IndexOutOfBoundsException", Cond.initialized "java/lang/IndexOutOfBoundsException", Cond.methodLink RX3 57 yX2_storeAt, Cond.instanceMethod yX2_storeAt, Cond.selects RX2 yX2_storeAt yX2_storeAt, Cond.code yX2_storeAt cX2_storeAt 2 (some (.object "LoafMarks$Store")), Cond.methodLink RX3 75 yX2_bakerWithMark, Cond.instanceMethod yX2_bakerWithMark, Cond.selects RX2 yX2_bakerWithMark yX2_bakerWithMark, Cond.code yX2_bakerWithMark cX2_bakerWithMark 4 (some .int), Cond.fieldLink RX2 23 "LoafMarks$Town" "bakers" "[LLoafMarks$Baker;", Cond.fieldLink RX2 78 "LoafMarks$Baker" "mark" "I", Cond.methodLink RX3 81 yX2_addBaker, Cond.instanceMethod yX2_addBaker, Cond.selects RX2 yX2_addBaker yX2_addBaker, Cond.code yX2_addBaker cX2_addBaker 6 (some .int), Cond.classLink RX2 21 RX0, Cond.instantiable RX0 8]
def wsL_act_r4 : List Cond := [Cond.initialized RX0, Cond.methodLink RX2 72 yX0_init, Cond.instanceMethod yX0_init, Cond.code yX0_init cX0_init 5 none, Cond.methodLink RX0 3 objectInit, Cond.fieldLink RX0 9 "LoafMarks$Baker" "storeNumber" "I", Cond.fieldLink RX0 15 "LoafMarks$Baker" "mark" "I", Cond.fieldLink RX0 18 "LoafMarks$Baker" "weight" "I", Cond.fieldLink RX0 21 "LoafMarks$Baker" "ration" "I", Cond.methodLink RL 45 yX3_setPeople, Cond.instanceMethod yX3_setPeople, Cond.selects RX3 yX3_setPeople yX3_setPeople, Cond.code yX3_setPeople cX3_setPeople 3 (some .int), Cond.fieldLink RX3 30 "LoafMarks$Town" "people" "I", Cond.methodLink RL 52 yX3_setGate, Cond.instanceMethod yX3_setGate, Cond.selects RX3 yX3_setGate yX3_setGate, Cond.code yX3_setGate cX3_setGate 3 (some .int), Cond.methodLink RX3 41 yX2_changeGate, Cond.instanceMethod yX2_changeGate, Cond.selects RX2 yX2_changeGate yX2_changeGate, Cond.code yX2_changeGate cX2_changeGate 4 (some .int), Cond.fieldLink RX2 9 "LoafMarks$Town" "gate" "[I", Cond.methodLink RX2 46 yX2_gateAt]
def wsL_act_r5 : List Cond := [Cond.instanceMethod yX2_gateAt, Cond.selects RX2 yX2_gateAt yX2_gateAt, Cond.code yX2_gateAt cX2_gateAt 2 (some .int), Cond.methodLink RL 55 yX3_smoke, Cond.instanceMethod yX3_smoke, Cond.selects RX3 yX3_smoke yX3_smoke, Cond.code yX3_smoke cX3_smoke 3 (some .int), Cond.methodLink RX3 63 yX1_smokeOut, Cond.instanceMethod yX1_smokeOut, Cond.selects RX1 yX1_smokeOut yX1_smokeOut, Cond.code yX1_smokeOut cX1_smokeOut 2 (some .int), Cond.methodLink RL 58 yX3_deal, Cond.instanceMethod yX3_deal, Cond.selects RX3 yX3_deal yX3_deal, Cond.code yX3_deal cX3_deal 5 (some .int), Cond.fieldLink RX3 93 "LoafMarks$Baker" "ration" "I", Cond.methodLink RX3 87 yX2_bakerAt, Cond.instanceMethod yX2_bakerAt, Cond.selects RX2 yX2_bakerAt yX2_bakerAt, Cond.code yX2_bakerAt cX2_bakerAt 2 (some (.object "LoafMarks$Baker")), Cond.methodLink RL 61 yX3_weigh, Cond.instanceMethod yX3_weigh, Cond.selects RX3 yX3_weigh yX3_weigh, Cond.code yX3_weigh cX3_weigh 3 (some .int)]
def wsL_act_r6 : List Cond := [Cond.fieldLink RX3 98 "LoafMarks$Baker" "shelf" "I", Cond.methodLink RX3 103 yX0_inspect, Cond.instanceMethod yX0_inspect, Cond.selects RX0 yX0_inspect yX0_inspect, Cond.code yX0_inspect cX0_inspect 1 (some .int), Cond.fieldLink RX0 27 "LoafMarks$Baker" "shelf" "I", Cond.fieldLink RX0 33 "LoafMarks$Baker" "barred" "Z", Cond.methodLink RX0 43 yX0_bakesLight, Cond.instanceMethod yX0_bakesLight, Cond.selects RX0 yX0_bakesLight yX0_bakesLight, Cond.code yX0_bakesLight cX0_bakesLight 1 (some .boolean), Cond.methodLink RL 64 yX3_pardon, Cond.instanceMethod yX3_pardon, Cond.selects RX3 yX3_pardon yX3_pardon, Cond.code yX3_pardon cX3_pardon 3 (some .boolean), Cond.methodLink RX3 106 yX0_forgive, Cond.instanceMethod yX0_forgive, Cond.selects RX0 yX0_forgive yX0_forgive, Cond.code yX0_forgive cX0_forgive 2 (some .boolean), Cond.methodLink RX0 47 Lib.Math.max.name, Cond.static Lib.Math.max.name, Cond.initialized "java/lang/Math", Cond.code Lib.Math.max.name Lib.Math.max.code 2 (some .int)]
def wsL_act : List Cond := .code yL_act cL_act 21 (some .boolean) :: ((wsL_act_r1 ++ (wsL_act_r2 ++ (wsL_act_r3 ++ (wsL_act_r4 ++ (wsL_act_r5 ++ wsL_act_r6))))) ++ wsX40 ++ wsX30 ++ wsX20 ++ wsX10 ++ wsX00 ++ (vx_atS RX3 27 "java/lang/IllegalArgumentException" ["java/lang/RuntimeException", "java/lang/Exception"]).filter goodWord ++ (vx_atS RX3 56 "java/lang/IllegalStateException" ["java/lang/RuntimeException", "java/lang/Exception"]).filter goodWord ++ (vx_atS RX3 38 "java/lang/IndexOutOfBoundsException" ["java/lang/RuntimeException", "java/lang/Exception"]).filter goodWord)
def wsL_build_r1 : List Cond := [Cond.classLink RL 10 RX4, Cond.instantiable RX4 9, Cond.initialized RX4, Cond.instanceMethod yX4_init, Cond.code yX4_init cX4_init 1 none, Cond.methodLink RX4 1 objectInit, Cond.instanceMethod objectInit, Cond.code objectInit ⟨#[0xb1]⟩ 1 none, Cond.fieldLink RX4 7 "LoafMarksLaw$Sim" "people" "I", Cond.arrayClass .int, Cond.fieldLink RX4 13 "LoafMarksLaw$Sim" "gate" "[I", Cond.classLink RX4 17 "[I", Cond.fieldLink RX4 18 "LoafMarksLaw$Sim" "stores" "[[I", Cond.fieldLink RX4 22 "LoafMarksLaw$Sim" "bakers" "[[I", Cond.methodLink RL 69 yL_cell, Cond.static yL_cell, Cond.initialized RL, Cond.code yL_cell cL_cell 2 (some .int), Cond.constant RL 8 (790386105), Cond.methodLink RL 73 yL_act, Cond.static yL_act, Cond.code yL_act cL_act 21 (some .boolean), Cond.fieldLink RL 9 "LoafMarksLaw$Sim" "stores" "[[I", Cond.fieldLink RL 15 "LoafMarksLaw$Sim" "bakers" "[[I"]
def wsL_build_r2 : List Cond := [Cond.fieldLink RL 41 "LoafMarksLaw$Sim" "people" "I", Cond.fieldLink RL 48 "LoafMarksLaw$Sim" "gate" "[I", Cond.methodLink RL 18 yL_below, Cond.static yL_below, Cond.code yL_below cL_below 2 (some .int), Cond.constant RL 7 (2147483647), Cond.methodLink RL 24 yX4_more, Cond.static yX4_more, Cond.code yX4_more cX4_more 4 (some (.array (.array .int))), Cond.methodLink RL 28 yX3_open, Cond.instanceMethod yX3_open, Cond.selects RX3 yX3_open yX3_open, Cond.initialized RX3, Cond.code yX3_open cX3_open 4 (some .int), Cond.classLink RX3 23 "java/lang/IllegalArgumentException", Cond.initialized "java/lang/IllegalArgumentException", Cond.classLink RX3 52 "java/lang/IllegalStateException", Cond.initialized "java/lang/IllegalStateException", Cond.fieldLink RX3 10 "LoafMarks" "town" "LLoafMarks$Town;", Cond.methodLink RX3 19 yX3_isWithin, Cond.static yX3_isWithin, Cond.code yX3_isWithin cX3_isWithin 3 (some .boolean), Cond.methodLink RX3 49 yX2_addStore, Cond.instanceMethod yX2_addStore]
def wsL_build_r3 : List Cond := [Cond.selects RX2 yX2_addStore yX2_addStore, Cond.initialized RX2, Cond.code yX2_addStore cX2_addStore 4 (some .int), Cond.fieldLink RX2 17 "LoafMarks$Town" "stores" "[LLoafMarks$Store;", Cond.classLink RX2 15 RX1, Cond.instantiable RX1 3, Cond.initialized RX1, Cond.methodLink RX2 61 yX1_init, Cond.instanceMethod yX1_init, Cond.code yX1_init cX1_init 3 none, Cond.methodLink RX1 3 objectInit, Cond.fieldLink RX1 9 "LoafMarks$Store" "flour" "I", Cond.fieldLink RX1 15 "LoafMarks$Store" "weevils" "I", Cond.methodLink RL 33 yX4_owner, Cond.instanceMethod yX4_owner, Cond.selects RX4 yX4_owner yX4_owner, Cond.code yX4_owner cX4_owner 3 (some .int), Cond.methodLink RL 37 yX3_swear, Cond.instanceMethod yX3_swear, Cond.selects RX3 yX3_swear yX3_swear, Cond.code yX3_swear cX3_swear 6 (some .int), Cond.classLink RX3 34 "java/lang/IndexOutOfBoundsException", Cond.initialized "java/lang/IndexOutOfBoundsException", Cond.methodLink RX3 57 yX2_storeAt]
def wsL_build_r4 : List Cond := [Cond.instanceMethod yX2_storeAt, Cond.selects RX2 yX2_storeAt yX2_storeAt, Cond.code yX2_storeAt cX2_storeAt 2 (some (.object "LoafMarks$Store")), Cond.methodLink RX3 75 yX2_bakerWithMark, Cond.instanceMethod yX2_bakerWithMark, Cond.selects RX2 yX2_bakerWithMark yX2_bakerWithMark, Cond.code yX2_bakerWithMark cX2_bakerWithMark 4 (some .int), Cond.fieldLink RX2 23 "LoafMarks$Town" "bakers" "[LLoafMarks$Baker;", Cond.fieldLink RX2 78 "LoafMarks$Baker" "mark" "I", Cond.methodLink RX3 81 yX2_addBaker, Cond.instanceMethod yX2_addBaker, Cond.selects RX2 yX2_addBaker yX2_addBaker, Cond.code yX2_addBaker cX2_addBaker 6 (some .int), Cond.classLink RX2 21 RX0, Cond.instantiable RX0 8, Cond.initialized RX0, Cond.methodLink RX2 72 yX0_init, Cond.instanceMethod yX0_init, Cond.code yX0_init cX0_init 5 none, Cond.methodLink RX0 3 objectInit, Cond.fieldLink RX0 9 "LoafMarks$Baker" "storeNumber" "I", Cond.fieldLink RX0 15 "LoafMarks$Baker" "mark" "I", Cond.fieldLink RX0 18 "LoafMarks$Baker" "weight" "I", Cond.fieldLink RX0 21 "LoafMarks$Baker" "ration" "I"]
def wsL_build_r5 : List Cond := [Cond.methodLink RL 45 yX3_setPeople, Cond.instanceMethod yX3_setPeople, Cond.selects RX3 yX3_setPeople yX3_setPeople, Cond.code yX3_setPeople cX3_setPeople 3 (some .int), Cond.fieldLink RX3 30 "LoafMarks$Town" "people" "I", Cond.methodLink RL 52 yX3_setGate, Cond.instanceMethod yX3_setGate, Cond.selects RX3 yX3_setGate yX3_setGate, Cond.code yX3_setGate cX3_setGate 3 (some .int), Cond.methodLink RX3 41 yX2_changeGate, Cond.instanceMethod yX2_changeGate, Cond.selects RX2 yX2_changeGate yX2_changeGate, Cond.code yX2_changeGate cX2_changeGate 4 (some .int), Cond.fieldLink RX2 9 "LoafMarks$Town" "gate" "[I", Cond.methodLink RX2 46 yX2_gateAt, Cond.instanceMethod yX2_gateAt, Cond.selects RX2 yX2_gateAt yX2_gateAt, Cond.code yX2_gateAt cX2_gateAt 2 (some .int), Cond.methodLink RL 55 yX3_smoke, Cond.instanceMethod yX3_smoke, Cond.selects RX3 yX3_smoke yX3_smoke, Cond.code yX3_smoke cX3_smoke 3 (some .int), Cond.methodLink RX3 63 yX1_smokeOut, Cond.instanceMethod yX1_smokeOut]
def wsL_build_r6 : List Cond := [Cond.selects RX1 yX1_smokeOut yX1_smokeOut, Cond.code yX1_smokeOut cX1_smokeOut 2 (some .int), Cond.methodLink RL 58 yX3_deal, Cond.instanceMethod yX3_deal, Cond.selects RX3 yX3_deal yX3_deal, Cond.code yX3_deal cX3_deal 5 (some .int), Cond.fieldLink RX3 93 "LoafMarks$Baker" "ration" "I", Cond.methodLink RX3 87 yX2_bakerAt, Cond.instanceMethod yX2_bakerAt, Cond.selects RX2 yX2_bakerAt yX2_bakerAt, Cond.code yX2_bakerAt cX2_bakerAt 2 (some (.object "LoafMarks$Baker")), Cond.methodLink RL 61 yX3_weigh, Cond.instanceMethod yX3_weigh, Cond.selects RX3 yX3_weigh yX3_weigh, Cond.code yX3_weigh cX3_weigh 3 (some .int), Cond.fieldLink RX3 98 "LoafMarks$Baker" "shelf" "I", Cond.methodLink RX3 103 yX0_inspect, Cond.instanceMethod yX0_inspect, Cond.selects RX0 yX0_inspect yX0_inspect, Cond.code yX0_inspect cX0_inspect 1 (some .int), Cond.fieldLink RX0 27 "LoafMarks$Baker" "shelf" "I", Cond.fieldLink RX0 33 "LoafMarks$Baker" "barred" "Z", Cond.methodLink RX0 43 yX0_bakesLight, Cond.instanceMethod yX0_bakesLight]
def wsL_build_r7 : List Cond := [Cond.selects RX0 yX0_bakesLight yX0_bakesLight, Cond.code yX0_bakesLight cX0_bakesLight 1 (some .boolean), Cond.methodLink RL 64 yX3_pardon, Cond.instanceMethod yX3_pardon, Cond.selects RX3 yX3_pardon yX3_pardon, Cond.code yX3_pardon cX3_pardon 3 (some .boolean), Cond.methodLink RX3 106 yX0_forgive, Cond.instanceMethod yX0_forgive, Cond.selects RX0 yX0_forgive yX0_forgive, Cond.code yX0_forgive cX0_forgive 2 (some .boolean), Cond.methodLink RX0 47 Lib.Math.max.name, Cond.static Lib.Math.max.name, Cond.initialized "java/lang/Math", Cond.code Lib.Math.max.name Lib.Math.max.code 2 (some .int)]
def wsL_build : List Cond := .code yL_build cL_build 4 (some (.object "LoafMarksLaw$Sim")) :: ((wsL_build_r1 ++ (wsL_build_r2 ++ (wsL_build_r3 ++ (wsL_build_r4 ++ (wsL_build_r5 ++ (wsL_build_r6 ++ wsL_build_r7)))))) ++ wsX40 ++ wsX30 ++ wsX20 ++ wsX10 ++ wsX00 ++ (vx_atS RX3 27 "java/lang/IllegalArgumentException" ["java/lang/RuntimeException", "java/lang/Exception"]).filter goodWord ++ (vx_atS RX3 56 "java/lang/IllegalStateException" ["java/lang/RuntimeException", "java/lang/Exception"]).filter goodWord ++ (vx_atS RX3 38 "java/lang/IndexOutOfBoundsException" ["java/lang/RuntimeException", "java/lang/Exception"]).filter goodWord)
def wsL_law0_r1 : List Cond := [Cond.classLink RL 29 RX3, Cond.instantiable RX3 2, Cond.initialized RX3, Cond.fieldLink RL 9 "LoafMarksLaw$Sim" "stores" "[[I", Cond.fieldLink RL 15 "LoafMarksLaw$Sim" "bakers" "[[I", Cond.classLink RL 94 "[[I", Cond.arrayClass .int, Cond.fieldLink RL 48 "LoafMarksLaw$Sim" "gate" "[I", Cond.methodLink RL 77 yX3_init, Cond.instanceMethod yX3_init, Cond.code yX3_init cX3_init 1 none, Cond.methodLink RX3 1 objectInit, Cond.instanceMethod objectInit, Cond.code objectInit ⟨#[0xb1]⟩ 1 none, Cond.classLink RX3 7 RX2, Cond.instantiable RX2 9, Cond.initialized RX2, Cond.fieldLink RX3 10 "LoafMarks" "town" "LLoafMarks$Town;", Cond.fieldLink RX3 16 "LoafMarks" "trial" "LLoafMarks$Town;", Cond.instanceMethod yX2_init, Cond.code yX2_init cX2_init 1 none, Cond.methodLink RX2 3 objectInit, Cond.fieldLink RX2 9 "LoafMarks$Town" "gate" "[I", Cond.classLink RX2 15 RX1]
def wsL_law0_r2 : List Cond := [Cond.fieldLink RX2 17 "LoafMarks$Town" "stores" "[LLoafMarks$Store;", Cond.classLink RX2 21 RX0, Cond.fieldLink RX2 23 "LoafMarks$Town" "bakers" "[LLoafMarks$Baker;", Cond.fieldLink RX2 27 "LoafMarks$Town" "people" "I", Cond.methodLink RL 78 yL_build, Cond.static yL_build, Cond.initialized RL, Cond.code yL_build cL_build 4 (some (.object "LoafMarksLaw$Sim")), Cond.classLink RL 10 RX4, Cond.instantiable RX4 9, Cond.initialized RX4, Cond.instanceMethod yX4_init, Cond.code yX4_init cX4_init 1 none, Cond.methodLink RX4 1 objectInit, Cond.fieldLink RX4 7 "LoafMarksLaw$Sim" "people" "I", Cond.fieldLink RX4 13 "LoafMarksLaw$Sim" "gate" "[I", Cond.classLink RX4 17 "[I", Cond.fieldLink RX4 18 "LoafMarksLaw$Sim" "stores" "[[I", Cond.fieldLink RX4 22 "LoafMarksLaw$Sim" "bakers" "[[I", Cond.methodLink RL 69 yL_cell, Cond.static yL_cell, Cond.code yL_cell cL_cell 2 (some .int), Cond.constant RL 8 (790386105), Cond.methodLink RL 73 yL_act]
def wsL_law0_r3 : List Cond := [Cond.static yL_act, Cond.code yL_act cL_act 21 (some .boolean), Cond.fieldLink RL 41 "LoafMarksLaw$Sim" "people" "I", Cond.methodLink RL 18 yL_below, Cond.static yL_below, Cond.code yL_below cL_below 2 (some .int), Cond.constant RL 7 (2147483647), Cond.methodLink RL 24 yX4_more, Cond.static yX4_more, Cond.code yX4_more cX4_more 4 (some (.array (.array .int))), Cond.methodLink RL 28 yX3_open, Cond.instanceMethod yX3_open, Cond.selects RX3 yX3_open yX3_open, Cond.code yX3_open cX3_open 4 (some .int), Cond.classLink RX3 23 "java/lang/IllegalArgumentException", Cond.initialized "java/lang/IllegalArgumentException", Cond.classLink RX3 52 "java/lang/IllegalStateException", Cond.initialized "java/lang/IllegalStateException", Cond.methodLink RX3 19 yX3_isWithin, Cond.static yX3_isWithin, Cond.code yX3_isWithin cX3_isWithin 3 (some .boolean), Cond.methodLink RX3 49 yX2_addStore, Cond.instanceMethod yX2_addStore, Cond.selects RX2 yX2_addStore yX2_addStore]
def wsL_law0_r4 : List Cond := [Cond.code yX2_addStore cX2_addStore 4 (some .int), Cond.instantiable RX1 3, Cond.initialized RX1, Cond.methodLink RX2 61 yX1_init, Cond.instanceMethod yX1_init, Cond.code yX1_init cX1_init 3 none, Cond.methodLink RX1 3 objectInit, Cond.fieldLink RX1 9 "LoafMarks$Store" "flour" "I", Cond.fieldLink RX1 15 "LoafMarks$Store" "weevils" "I", Cond.methodLink RL 33 yX4_owner, Cond.instanceMethod yX4_owner, Cond.selects RX4 yX4_owner yX4_owner, Cond.code yX4_owner cX4_owner 3 (some .int), Cond.methodLink RL 37 yX3_swear, Cond.instanceMethod yX3_swear, Cond.selects RX3 yX3_swear yX3_swear, Cond.code yX3_swear cX3_swear 6 (some .int), Cond.classLink RX3 34 "java/lang/IndexOutOfBoundsException", Cond.initialized "java/lang/IndexOutOfBoundsException", Cond.methodLink RX3 57 yX2_storeAt, Cond.instanceMethod yX2_storeAt, Cond.selects RX2 yX2_storeAt yX2_storeAt, Cond.code yX2_storeAt cX2_storeAt 2 (some (.object "LoafMarks$Store")), Cond.methodLink RX3 75 yX2_bakerWithMark]
def wsL_law0_r5 : List Cond := [Cond.instanceMethod yX2_bakerWithMark, Cond.selects RX2 yX2_bakerWithMark yX2_bakerWithMark, Cond.code yX2_bakerWithMark cX2_bakerWithMark 4 (some .int), Cond.fieldLink RX2 78 "LoafMarks$Baker" "mark" "I", Cond.methodLink RX3 81 yX2_addBaker, Cond.instanceMethod yX2_addBaker, Cond.selects RX2 yX2_addBaker yX2_addBaker, Cond.code yX2_addBaker cX2_addBaker 6 (some .int), Cond.instantiable RX0 8, Cond.initialized RX0, Cond.methodLink RX2 72 yX0_init, Cond.instanceMethod yX0_init, Cond.code yX0_init cX0_init 5 none, Cond.methodLink RX0 3 objectInit, Cond.fieldLink RX0 9 "LoafMarks$Baker" "storeNumber" "I", Cond.fieldLink RX0 15 "LoafMarks$Baker" "mark" "I", Cond.fieldLink RX0 18 "LoafMarks$Baker" "weight" "I", Cond.fieldLink RX0 21 "LoafMarks$Baker" "ration" "I", Cond.methodLink RL 45 yX3_setPeople, Cond.instanceMethod yX3_setPeople, Cond.selects RX3 yX3_setPeople yX3_setPeople, Cond.code yX3_setPeople cX3_setPeople 3 (some .int), Cond.fieldLink RX3 30 "LoafMarks$Town" "people" "I", Cond.methodLink RL 52 yX3_setGate]
def wsL_law0_r6 : List Cond := [Cond.instanceMethod yX3_setGate, Cond.selects RX3 yX3_setGate yX3_setGate, Cond.code yX3_setGate cX3_setGate 3 (some .int), Cond.methodLink RX3 41 yX2_changeGate, Cond.instanceMethod yX2_changeGate, Cond.selects RX2 yX2_changeGate yX2_changeGate, Cond.code yX2_changeGate cX2_changeGate 4 (some .int), Cond.methodLink RX2 46 yX2_gateAt, Cond.instanceMethod yX2_gateAt, Cond.selects RX2 yX2_gateAt yX2_gateAt, Cond.code yX2_gateAt cX2_gateAt 2 (some .int), Cond.methodLink RL 55 yX3_smoke, Cond.instanceMethod yX3_smoke, Cond.selects RX3 yX3_smoke yX3_smoke, Cond.code yX3_smoke cX3_smoke 3 (some .int), Cond.methodLink RX3 63 yX1_smokeOut, Cond.instanceMethod yX1_smokeOut, Cond.selects RX1 yX1_smokeOut yX1_smokeOut, Cond.code yX1_smokeOut cX1_smokeOut 2 (some .int), Cond.methodLink RL 58 yX3_deal, Cond.instanceMethod yX3_deal, Cond.selects RX3 yX3_deal yX3_deal, Cond.code yX3_deal cX3_deal 5 (some .int), Cond.fieldLink RX3 93 "LoafMarks$Baker" "ration" "I"]
def wsL_law0_r7 : List Cond := [Cond.methodLink RX3 87 yX2_bakerAt, Cond.instanceMethod yX2_bakerAt, Cond.selects RX2 yX2_bakerAt yX2_bakerAt, Cond.code yX2_bakerAt cX2_bakerAt 2 (some (.object "LoafMarks$Baker")), Cond.methodLink RL 61 yX3_weigh, Cond.instanceMethod yX3_weigh, Cond.selects RX3 yX3_weigh yX3_weigh, Cond.code yX3_weigh cX3_weigh 3 (some .int), Cond.fieldLink RX3 98 "LoafMarks$Baker" "shelf" "I", Cond.methodLink RX3 103 yX0_inspect, Cond.instanceMethod yX0_inspect, Cond.selects RX0 yX0_inspect yX0_inspect, Cond.code yX0_inspect cX0_inspect 1 (some .int), Cond.fieldLink RX0 27 "LoafMarks$Baker" "shelf" "I", Cond.fieldLink RX0 33 "LoafMarks$Baker" "barred" "Z", Cond.methodLink RX0 43 yX0_bakesLight, Cond.instanceMethod yX0_bakesLight, Cond.selects RX0 yX0_bakesLight yX0_bakesLight, Cond.code yX0_bakesLight cX0_bakesLight 1 (some .boolean), Cond.methodLink RL 64 yX3_pardon, Cond.instanceMethod yX3_pardon, Cond.selects RX3 yX3_pardon yX3_pardon, Cond.code yX3_pardon cX3_pardon 3 (some .boolean), Cond.methodLink RX3 106 yX0_forgive]
def wsL_law0_r8 : List Cond := [Cond.instanceMethod yX0_forgive, Cond.selects RX0 yX0_forgive yX0_forgive, Cond.code yX0_forgive cX0_forgive 2 (some .boolean), Cond.methodLink RX0 47 Lib.Math.max.name, Cond.static Lib.Math.max.name, Cond.initialized "java/lang/Math", Cond.code Lib.Math.max.name Lib.Math.max.code 2 (some .int), Cond.methodLink RL 82 yX3_pass, Cond.instanceMethod yX3_pass, Cond.selects RX3 yX3_pass yX3_pass, Cond.code yX3_pass cX3_pass 2 (some .int), Cond.methodLink RX3 125 yX2_goThrough, Cond.instanceMethod yX2_goThrough, Cond.selects RX2 yX2_goThrough yX2_goThrough, Cond.code yX2_goThrough cX2_goThrough 4 (some .int), Cond.methodLink RX2 81 yX2_goThroughHour, Cond.instanceMethod yX2_goThroughHour, Cond.selects RX2 yX2_goThroughHour yX2_goThroughHour, Cond.code yX2_goThroughHour cX2_goThroughHour 3 (some .int), Cond.fieldLink RX2 31 "LoafMarks$Town" "hour" "I", Cond.methodLink RX2 85 yX2_hourOfDay, Cond.instanceMethod yX2_hourOfDay, Cond.selects RX2 yX2_hourOfDay yX2_hourOfDay, Cond.code yX2_hourOfDay cX2_hourOfDay 1 (some .int)]
def wsL_law0_r9 : List Cond := [Cond.methodLink RX2 104 yJ9_floorMod_7cf53, Cond.static yJ9_floorMod_7cf53, Cond.initialized RJ9, Cond.code yJ9_floorMod_7cf53 cJ9_floorMod_7cf53 3 (some .int), Cond.methodLink RX2 88 yX2_unloadCarts, Cond.instanceMethod yX2_unloadCarts, Cond.selects RX2 yX2_unloadCarts yX2_unloadCarts, Cond.code yX2_unloadCarts cX2_unloadCarts 3 none, Cond.fieldLink RX2 43 "LoafMarks$Town" "lost" "I", Cond.methodLink RX2 110 yX2_emptiestStore, Cond.instanceMethod yX2_emptiestStore, Cond.selects RX2 yX2_emptiestStore yX2_emptiestStore, Cond.code yX2_emptiestStore cX2_emptiestStore 6 (some (.object "LoafMarks$Store")), Cond.fieldLink RX2 117 "LoafMarks$Store" "flour" "I", Cond.methodLink RX2 114 yX1_takeIn, Cond.instanceMethod yX1_takeIn, Cond.selects RX1 yX1_takeIn yX1_takeIn, Cond.code yX1_takeIn cX1_takeIn 3 (some .int), Cond.methodLink RX1 21 Lib.Math.min.name, Cond.static Lib.Math.min.name, Cond.code Lib.Math.min.name Lib.Math.min.code 2 (some .int), Cond.methodLink RX2 92 yX2_dealRations, Cond.instanceMethod yX2_dealRations, Cond.selects RX2 yX2_dealRations yX2_dealRations]
def wsL_law0_r10 : List Cond := [Cond.code yX2_dealRations cX2_dealRations 6 none, Cond.fieldLink RX2 120 "LoafMarks$Baker" "barred" "Z", Cond.fieldLink RX2 124 "LoafMarks$Baker" "storeNumber" "I", Cond.fieldLink RX2 127 "LoafMarks$Baker" "atHand" "I", Cond.fieldLink RX2 130 "LoafMarks$Baker" "ration" "I", Cond.methodLink RX2 57 yX2_storeAt, Cond.methodLink RX2 133 yX1_giveOut, Cond.instanceMethod yX1_giveOut, Cond.selects RX1 yX1_giveOut yX1_giveOut, Cond.code yX1_giveOut cX1_giveOut 3 (some .int), Cond.methodLink RX2 95 yX2_feedAllWeevils, Cond.instanceMethod yX2_feedAllWeevils, Cond.selects RX2 yX2_feedAllWeevils yX2_feedAllWeevils, Cond.code yX2_feedAllWeevils cX2_feedAllWeevils 5 none, Cond.methodLink RX2 136 yX1_feedWeevils, Cond.instanceMethod yX1_feedWeevils, Cond.selects RX1 yX1_feedWeevils yX1_feedWeevils, Cond.code yX1_feedWeevils cX1_feedWeevils 1 none, Cond.fieldLink RX1 18 "LoafMarks$Store" "eaten" "I", Cond.methodLink RX1 27 yX1_giveOut, Cond.methodLink RX2 98 yX2_bakeAll, Cond.instanceMethod yX2_bakeAll, Cond.selects RX2 yX2_bakeAll yX2_bakeAll, Cond.code yX2_bakeAll cX2_bakeAll 5 none]
def wsL_law0_r11 : List Cond := [Cond.methodLink RX2 139 yX0_bake, Cond.instanceMethod yX0_bake, Cond.selects RX0 yX0_bake yX0_bake, Cond.code yX0_bake cX0_bake 2 none, Cond.fieldLink RX0 24 "LoafMarks$Baker" "atHand" "I", Cond.methodLink RX0 37 Lib.Math.min.name, Cond.methodLink RX2 101 yX2_sellAtNoon, Cond.instanceMethod yX2_sellAtNoon, Cond.selects RX2 yX2_sellAtNoon yX2_sellAtNoon, Cond.code yX2_sellAtNoon cX2_sellAtNoon 7 (some .int), Cond.fieldLink RX2 34 "LoafMarks$Town" "bought" "I", Cond.fieldLink RX2 37 "LoafMarks$Town" "light" "I", Cond.fieldLink RX2 40 "LoafMarks$Town" "hungry" "I", Cond.methodLink RX2 142 yX0_sell, Cond.instanceMethod yX0_sell, Cond.selects RX0 yX0_sell yX0_sell, Cond.code yX0_sell cX0_sell 3 (some .int), Cond.fieldLink RX0 30 "LoafMarks$Baker" "sold" "I", Cond.methodLink RX2 145 yX0_bakesLight, Cond.methodLink RL 85 yX4_pass, Cond.instanceMethod yX4_pass, Cond.selects RX4 yX4_pass yX4_pass, Cond.code yX4_pass cX4_pass 9 (some .int), Cond.fieldLink RX4 30 "LoafMarksLaw$Sim" "hour" "I"]
def wsL_law0_r12 : List Cond := [Cond.fieldLink RX4 33 "LoafMarksLaw$Sim" "lost" "I", Cond.fieldLink RX4 36 "LoafMarksLaw$Sim" "all" "I", Cond.fieldLink RX4 39 "LoafMarksLaw$Sim" "light" "I", Cond.fieldLink RX4 42 "LoafMarksLaw$Sim" "hungry" "I", Cond.methodLink RL 88 yX3_count, Cond.instanceMethod yX3_count, Cond.selects RX3 yX3_count yX3_count, Cond.code yX3_count cX3_count 2 (some .int), Cond.methodLink RX3 122 yX2_fact, Cond.instanceMethod yX2_fact, Cond.selects RX2 yX2_fact yX2_fact, Cond.code yX2_fact cX2_fact 2 (some .int), Cond.methodLink RX2 161 yX2_flourOfAll, Cond.instanceMethod yX2_flourOfAll, Cond.selects RX2 yX2_flourOfAll yX2_flourOfAll, Cond.code yX2_flourOfAll cX2_flourOfAll 6 (some .int), Cond.methodLink RX2 164 yX2_loavesOfAll, Cond.instanceMethod yX2_loavesOfAll, Cond.selects RX2 yX2_loavesOfAll yX2_loavesOfAll, Cond.code yX2_loavesOfAll cX2_loavesOfAll 6 (some .int), Cond.fieldLink RX2 152 "LoafMarks$Baker" "shelf" "I", Cond.methodLink RX2 167 yX2_barredBakers, Cond.instanceMethod yX2_barredBakers, Cond.selects RX2 yX2_barredBakers yX2_barredBakers]
def wsL_law0_r13 : List Cond := [Cond.code yX2_barredBakers cX2_barredBakers 6 (some .int), Cond.methodLink RL 91 yX3_store, Cond.instanceMethod yX3_store, Cond.selects RX3 yX3_store yX3_store, Cond.code yX3_store cX3_store 3 (some .int), Cond.methodLink RX3 112 yX2_storeFact, Cond.instanceMethod yX2_storeFact, Cond.selects RX2 yX2_storeFact yX2_storeFact, Cond.code yX2_storeFact cX2_storeFact 4 (some .int), Cond.fieldLink RX2 149 "LoafMarks$Store" "weevils" "I", Cond.fieldLink RX2 158 "LoafMarks$Store" "eaten" "I", Cond.methodLink RX2 155 yX2_bakersOfStore, Cond.instanceMethod yX2_bakersOfStore, Cond.selects RX2 yX2_bakersOfStore yX2_bakersOfStore, Cond.code yX2_bakersOfStore cX2_bakersOfStore 7 (some .int), Cond.methodLink RL 95 yX3_baker, Cond.instanceMethod yX3_baker, Cond.selects RX3 yX3_baker yX3_baker, Cond.code yX3_baker cX3_baker 4 (some .int), Cond.methodLink RX3 117 yX0_fact, Cond.instanceMethod yX0_fact, Cond.selects RX0 yX0_fact yX0_fact, Cond.code yX0_fact cX0_fact 2 (some .int), Cond.methodLink RL 98 yX3_lasts]
def wsL_law0_r14 : List Cond := [Cond.instanceMethod yX3_lasts, Cond.selects RX3 yX3_lasts yX3_lasts, Cond.code yX3_lasts cX3_lasts 2 (some .int), Cond.methodLink RX3 128 yX2_becomeLike, Cond.instanceMethod yX2_becomeLike, Cond.selects RX2 yX2_becomeLike yX2_becomeLike, Cond.code yX2_becomeLike cX2_becomeLike 3 none, Cond.methodLink RX2 50 yX2_copyStores, Cond.instanceMethod yX2_copyStores, Cond.selects RX2 yX2_copyStores yX2_copyStores, Cond.code yX2_copyStores cX2_copyStores 5 none, Cond.methodLink RX2 64 yX1_becomeLike, Cond.instanceMethod yX1_becomeLike, Cond.selects RX1 yX1_becomeLike yX1_becomeLike, Cond.code yX1_becomeLike cX1_becomeLike 2 none, Cond.methodLink RX2 54 yX2_copyBakers, Cond.instanceMethod yX2_copyBakers, Cond.selects RX2 yX2_copyBakers yX2_copyBakers, Cond.code yX2_copyBakers cX2_copyBakers 5 none, Cond.methodLink RX2 68 yX2_bakerAt, Cond.methodLink RX2 75 yX0_becomeLike, Cond.instanceMethod yX0_becomeLike, Cond.selects RX0 yX0_becomeLike yX0_becomeLike, Cond.code yX0_becomeLike cX0_becomeLike 2 none]
def wsL_law0_r15 : List Cond := [Cond.methodLink RX3 132 yX2_goThroughHour, Cond.methodLink RL 101 yX3_foresee, Cond.instanceMethod yX3_foresee, Cond.selects RX3 yX3_foresee yX3_foresee, Cond.code yX3_foresee cX3_foresee 4 (some .int), Cond.methodLink RX3 135 yX2_flourOfAll, Cond.methodLink RX3 138 yX2_loavesOfAll, Cond.methodLink RX3 141 yX2_weevilsOfAll, Cond.instanceMethod yX2_weevilsOfAll, Cond.selects RX2 yX2_weevilsOfAll yX2_weevilsOfAll, Cond.code yX2_weevilsOfAll cX2_weevilsOfAll 6 (some .int), Cond.methodLink RL 104 yX3_whose, Cond.instanceMethod yX3_whose, Cond.selects RX3 yX3_whose yX3_whose, Cond.code yX3_whose cX3_whose 2 (some .int), Cond.methodLink RL 107 yX4_isSame, Cond.instanceMethod yX4_isSame, Cond.selects RX4 yX4_isSame yX4_isSame, Cond.code yX4_isSame cX4_isSame 8 (some .boolean), Cond.methodLink RX4 45 yX3_store, Cond.methodLink RX4 51 yX3_baker, Cond.methodLink RX4 54 yX4_stored, Cond.instanceMethod yX4_stored, Cond.selects RX4 yX4_stored yX4_stored]
def wsL_law0_r16 : List Cond := [Cond.code yX4_stored cX4_stored 7 (some .int), Cond.methodLink RX4 58 yX4_baked, Cond.instanceMethod yX4_baked, Cond.selects RX4 yX4_baked yX4_baked, Cond.code yX4_baked cX4_baked 7 (some .int), Cond.methodLink RX4 61 yX3_count, Cond.methodLink RX4 64 yX3_share, Cond.instanceMethod yX3_share, Cond.selects RX3 yX3_share yX3_share, Cond.code yX3_share cX3_share 1 (some .double), Cond.fieldLink RX3 150 "LoafMarks$Town" "bought" "I", Cond.fieldLink RX3 153 "LoafMarks$Town" "light" "I"]
def wsL_law0 : List Cond := (wsL_law0_r1 ++ (wsL_law0_r2 ++ (wsL_law0_r3 ++ (wsL_law0_r4 ++ (wsL_law0_r5 ++ (wsL_law0_r6 ++ (wsL_law0_r7 ++ (wsL_law0_r8 ++ (wsL_law0_r9 ++ (wsL_law0_r10 ++ (wsL_law0_r11 ++ (wsL_law0_r12 ++ (wsL_law0_r13 ++ (wsL_law0_r14 ++ (wsL_law0_r15 ++ wsL_law0_r16))))))))))))))) ++ wsX30 ++ wsX40 ++ wsX20 ++ wsX10 ++ wsX00 ++ ([] : List Cond)
def wsL_law : List Cond := wsL_law0 ++ (vx_atS RX3 27 "java/lang/IllegalArgumentException" ["java/lang/RuntimeException", "java/lang/Exception"]).filter goodWord ++ (vx_atS RX3 56 "java/lang/IllegalStateException" ["java/lang/RuntimeException", "java/lang/Exception"]).filter goodWord ++ (vx_atS RX3 38 "java/lang/IndexOutOfBoundsException" ["java/lang/RuntimeException", "java/lang/Exception"]).filter goodWord
theorem dX0_init_0 : decode cX0_init 0 = .ok (.aload_n 0, 1) := by decide +kernel
theorem dX0_init_1 : decode cX0_init 1 = .ok (.invokespecial 3, 3) := by decide +kernel
theorem dX0_init_4 : decode cX0_init 4 = .ok (.aload_n 0, 1) := by decide +kernel
theorem dX0_init_5 : decode cX0_init 5 = .ok (.iload_n 1, 1) := by decide +kernel
theorem dX0_init_6 : decode cX0_init 6 = .ok (.putfield 9, 3) := by decide +kernel
theorem dX0_init_9 : decode cX0_init 9 = .ok (.aload_n 0, 1) := by decide +kernel
theorem dX0_init_10 : decode cX0_init 10 = .ok (.iload_n 2, 1) := by decide +kernel
theorem dX0_init_11 : decode cX0_init 11 = .ok (.putfield 15, 3) := by decide +kernel
theorem dX0_init_14 : decode cX0_init 14 = .ok (.aload_n 0, 1) := by decide +kernel
theorem dX0_init_15 : decode cX0_init 15 = .ok (.iload_n 3, 1) := by decide +kernel
theorem dX0_init_16 : decode cX0_init 16 = .ok (.putfield 18, 3) := by decide +kernel
theorem dX0_init_19 : decode cX0_init 19 = .ok (.aload_n 0, 1) := by decide +kernel
theorem dX0_init_20 : decode cX0_init 20 = .ok (.iload 4, 2) := by decide +kernel
theorem dX0_init_22 : decode cX0_init 22 = .ok (.putfield 21, 3) := by decide +kernel
theorem dX0_init_25 : decode cX0_init 25 = .ok (.return_, 1) := by decide +kernel
theorem dX0_becomeLike_0 : decode cX0_becomeLike 0 = .ok (.aload_n 0, 1) := by decide +kernel
theorem dX0_becomeLike_1 : decode cX0_becomeLike 1 = .ok (.aload_n 1, 1) := by decide +kernel
theorem dX0_becomeLike_2 : decode cX0_becomeLike 2 = .ok (.getfield 9, 3) := by decide +kernel
theorem dX0_becomeLike_5 : decode cX0_becomeLike 5 = .ok (.putfield 9, 3) := by decide +kernel
theorem dX0_becomeLike_8 : decode cX0_becomeLike 8 = .ok (.aload_n 0, 1) := by decide +kernel
theorem dX0_becomeLike_9 : decode cX0_becomeLike 9 = .ok (.aload_n 1, 1) := by decide +kernel
theorem dX0_becomeLike_10 : decode cX0_becomeLike 10 = .ok (.getfield 15, 3) := by decide +kernel
theorem dX0_becomeLike_13 : decode cX0_becomeLike 13 = .ok (.putfield 15, 3) := by decide +kernel
theorem dX0_becomeLike_16 : decode cX0_becomeLike 16 = .ok (.aload_n 0, 1) := by decide +kernel
theorem dX0_becomeLike_17 : decode cX0_becomeLike 17 = .ok (.aload_n 1, 1) := by decide +kernel
theorem dX0_becomeLike_18 : decode cX0_becomeLike 18 = .ok (.getfield 21, 3) := by decide +kernel
theorem dX0_becomeLike_21 : decode cX0_becomeLike 21 = .ok (.putfield 21, 3) := by decide +kernel
theorem dX0_becomeLike_24 : decode cX0_becomeLike 24 = .ok (.aload_n 0, 1) := by decide +kernel
theorem dX0_becomeLike_25 : decode cX0_becomeLike 25 = .ok (.aload_n 1, 1) := by decide +kernel
theorem dX0_becomeLike_26 : decode cX0_becomeLike 26 = .ok (.getfield 24, 3) := by decide +kernel
theorem dX0_becomeLike_29 : decode cX0_becomeLike 29 = .ok (.putfield 24, 3) := by decide +kernel
theorem dX0_becomeLike_32 : decode cX0_becomeLike 32 = .ok (.aload_n 0, 1) := by decide +kernel
theorem dX0_becomeLike_33 : decode cX0_becomeLike 33 = .ok (.aload_n 1, 1) := by decide +kernel
theorem dX0_becomeLike_34 : decode cX0_becomeLike 34 = .ok (.getfield 18, 3) := by decide +kernel
theorem dX0_becomeLike_37 : decode cX0_becomeLike 37 = .ok (.putfield 18, 3) := by decide +kernel
theorem dX0_becomeLike_40 : decode cX0_becomeLike 40 = .ok (.aload_n 0, 1) := by decide +kernel
theorem dX0_becomeLike_41 : decode cX0_becomeLike 41 = .ok (.aload_n 1, 1) := by decide +kernel
theorem dX0_becomeLike_42 : decode cX0_becomeLike 42 = .ok (.getfield 27, 3) := by decide +kernel
theorem dX0_becomeLike_45 : decode cX0_becomeLike 45 = .ok (.putfield 27, 3) := by decide +kernel
theorem dX0_becomeLike_48 : decode cX0_becomeLike 48 = .ok (.aload_n 0, 1) := by decide +kernel
theorem dX0_becomeLike_49 : decode cX0_becomeLike 49 = .ok (.aload_n 1, 1) := by decide +kernel
theorem dX0_becomeLike_50 : decode cX0_becomeLike 50 = .ok (.getfield 30, 3) := by decide +kernel
theorem dX0_becomeLike_53 : decode cX0_becomeLike 53 = .ok (.putfield 30, 3) := by decide +kernel
theorem dX0_becomeLike_56 : decode cX0_becomeLike 56 = .ok (.aload_n 0, 1) := by decide +kernel
theorem dX0_becomeLike_57 : decode cX0_becomeLike 57 = .ok (.aload_n 1, 1) := by decide +kernel
theorem dX0_becomeLike_58 : decode cX0_becomeLike 58 = .ok (.getfield 33, 3) := by decide +kernel
theorem dX0_becomeLike_61 : decode cX0_becomeLike 61 = .ok (.putfield 33, 3) := by decide +kernel
theorem dX0_becomeLike_64 : decode cX0_becomeLike 64 = .ok (.return_, 1) := by decide +kernel
theorem dX0_bakesLight_0 : decode cX0_bakesLight 0 = .ok (.aload_n 0, 1) := by decide +kernel
theorem dX0_bakesLight_1 : decode cX0_bakesLight 1 = .ok (.getfield 18, 3) := by decide +kernel
theorem dX0_bakesLight_4 : decode cX0_bakesLight 4 = .ok (.bipush 10, 2) := by decide +kernel
theorem dX0_bakesLight_6 : decode cX0_bakesLight 6 = .ok (.if_icmp .ge 7, 3) := by decide +kernel
theorem dX0_bakesLight_9 : decode cX0_bakesLight 9 = .ok (.iconst 1, 1) := by decide +kernel
theorem dX0_bakesLight_10 : decode cX0_bakesLight 10 = .ok (.goto 4, 3) := by decide +kernel
theorem dX0_bakesLight_13 : decode cX0_bakesLight 13 = .ok (.iconst 0, 1) := by decide +kernel
theorem dX0_bakesLight_14 : decode cX0_bakesLight 14 = .ok (.ireturn, 1) := by decide +kernel
theorem dX0_bake_0 : decode cX0_bake 0 = .ok (.aload_n 0, 1) := by decide +kernel
theorem dX0_bake_1 : decode cX0_bake 1 = .ok (.getfield 33, 3) := by decide +kernel
theorem dX0_bake_4 : decode cX0_bake 4 = .ok (.ifCond .ne 10, 3) := by decide +kernel
theorem dX0_bake_7 : decode cX0_bake 7 = .ok (.aload_n 0, 1) := by decide +kernel
theorem dX0_bake_8 : decode cX0_bake 8 = .ok (.getfield 18, 3) := by decide +kernel
theorem dX0_bake_11 : decode cX0_bake 11 = .ok (.ifCond .gt 4, 3) := by decide +kernel
theorem dX0_bake_14 : decode cX0_bake 14 = .ok (.return_, 1) := by decide +kernel
theorem dX0_bake_15 : decode cX0_bake 15 = .ok (.aload_n 0, 1) := by decide +kernel
theorem dX0_bake_16 : decode cX0_bake 16 = .ok (.getfield 24, 3) := by decide +kernel
theorem dX0_bake_19 : decode cX0_bake 19 = .ok (.aload_n 0, 1) := by decide +kernel
theorem dX0_bake_20 : decode cX0_bake 20 = .ok (.getfield 18, 3) := by decide +kernel
theorem dX0_bake_23 : decode cX0_bake 23 = .ok (.idiv, 1) := by decide +kernel
theorem dX0_bake_24 : decode cX0_bake 24 = .ok (.iconst 4, 1) := by decide +kernel
theorem dX0_bake_25 : decode cX0_bake 25 = .ok (.invokestatic 37, 3) := by decide +kernel
theorem dX0_bake_28 : decode cX0_bake 28 = .ok (.istore_n 1, 1) := by decide +kernel
theorem dX0_bake_29 : decode cX0_bake 29 = .ok (.aload_n 0, 1) := by decide +kernel
theorem dX0_bake_30 : decode cX0_bake 30 = .ok (.dup, 1) := by decide +kernel
theorem dX0_bake_31 : decode cX0_bake 31 = .ok (.getfield 24, 3) := by decide +kernel
theorem dX0_bake_34 : decode cX0_bake 34 = .ok (.iload_n 1, 1) := by decide +kernel
theorem dX0_bake_35 : decode cX0_bake 35 = .ok (.aload_n 0, 1) := by decide +kernel
theorem dX0_bake_36 : decode cX0_bake 36 = .ok (.getfield 18, 3) := by decide +kernel
theorem dX0_bake_39 : decode cX0_bake 39 = .ok (.imul, 1) := by decide +kernel
theorem dX0_bake_40 : decode cX0_bake 40 = .ok (.isub, 1) := by decide +kernel
theorem dX0_bake_41 : decode cX0_bake 41 = .ok (.putfield 24, 3) := by decide +kernel
theorem dX0_bake_44 : decode cX0_bake 44 = .ok (.aload_n 0, 1) := by decide +kernel
theorem dX0_bake_45 : decode cX0_bake 45 = .ok (.dup, 1) := by decide +kernel
theorem dX0_bake_46 : decode cX0_bake 46 = .ok (.getfield 27, 3) := by decide +kernel
theorem dX0_bake_49 : decode cX0_bake 49 = .ok (.iload_n 1, 1) := by decide +kernel
theorem dX0_bake_50 : decode cX0_bake 50 = .ok (.iadd, 1) := by decide +kernel
theorem dX0_bake_51 : decode cX0_bake 51 = .ok (.putfield 27, 3) := by decide +kernel
theorem dX0_bake_54 : decode cX0_bake 54 = .ok (.return_, 1) := by decide +kernel
theorem dX0_sell_0 : decode cX0_sell 0 = .ok (.iload_n 1, 1) := by decide +kernel
theorem dX0_sell_1 : decode cX0_sell 1 = .ok (.aload_n 0, 1) := by decide +kernel
theorem dX0_sell_2 : decode cX0_sell 2 = .ok (.getfield 27, 3) := by decide +kernel
theorem dX0_sell_5 : decode cX0_sell 5 = .ok (.invokestatic 37, 3) := by decide +kernel
theorem dX0_sell_8 : decode cX0_sell 8 = .ok (.istore_n 2, 1) := by decide +kernel
theorem dX0_sell_9 : decode cX0_sell 9 = .ok (.aload_n 0, 1) := by decide +kernel
theorem dX0_sell_10 : decode cX0_sell 10 = .ok (.dup, 1) := by decide +kernel
theorem dX0_sell_11 : decode cX0_sell 11 = .ok (.getfield 27, 3) := by decide +kernel
theorem dX0_sell_14 : decode cX0_sell 14 = .ok (.iload_n 2, 1) := by decide +kernel
theorem dX0_sell_15 : decode cX0_sell 15 = .ok (.isub, 1) := by decide +kernel
theorem dX0_sell_16 : decode cX0_sell 16 = .ok (.putfield 27, 3) := by decide +kernel
theorem dX0_sell_19 : decode cX0_sell 19 = .ok (.aload_n 0, 1) := by decide +kernel
theorem dX0_sell_20 : decode cX0_sell 20 = .ok (.dup, 1) := by decide +kernel
theorem dX0_sell_21 : decode cX0_sell 21 = .ok (.getfield 30, 3) := by decide +kernel
theorem dX0_sell_24 : decode cX0_sell 24 = .ok (.iload_n 2, 1) := by decide +kernel
theorem dX0_sell_25 : decode cX0_sell 25 = .ok (.iadd, 1) := by decide +kernel
theorem dX0_sell_26 : decode cX0_sell 26 = .ok (.putfield 30, 3) := by decide +kernel
theorem dX0_sell_29 : decode cX0_sell 29 = .ok (.iload_n 2, 1) := by decide +kernel
theorem dX0_sell_30 : decode cX0_sell 30 = .ok (.ireturn, 1) := by decide +kernel
set_option maxRecDepth 20000 in
theorem ggX0_inspect_X0_bakesLight : GoodIn wsX0_inspect wsX0_bakesLight := goodIn_r _ [8, 3, 9, 10, 11, 12, 13, 14, 15, 16] (by decide +kernel) (by decide +kernel)
set_option maxRecDepth 20000 in
theorem gX0_inspect_X0_bakesLight : GoodIn wsX0_inspect (wsV RX0 43 RX0 yX0_bakesLight wsX0_bakesLight) := goodIn_app (goodIn_of _ (by decide +kernel)) ggX0_inspect_X0_bakesLight
theorem dX0_inspect_0 : decode cX0_inspect 0 = .ok (.aload_n 0, 1) := by decide +kernel
theorem dX0_inspect_1 : decode cX0_inspect 1 = .ok (.dup, 1) := by decide +kernel
theorem dX0_inspect_2 : decode cX0_inspect 2 = .ok (.getfield 27, 3) := by decide +kernel
theorem dX0_inspect_5 : decode cX0_inspect 5 = .ok (.iconst 1, 1) := by decide +kernel
theorem dX0_inspect_6 : decode cX0_inspect 6 = .ok (.isub, 1) := by decide +kernel
theorem dX0_inspect_7 : decode cX0_inspect 7 = .ok (.putfield 27, 3) := by decide +kernel
theorem dX0_inspect_10 : decode cX0_inspect 10 = .ok (.aload_n 0, 1) := by decide +kernel
theorem dX0_inspect_11 : decode cX0_inspect 11 = .ok (.invokevirtual 43, 3) := by decide +kernel
theorem dX0_inspect_14 : decode cX0_inspect 14 = .ok (.ifCond .eq 8, 3) := by decide +kernel
theorem dX0_inspect_17 : decode cX0_inspect 17 = .ok (.aload_n 0, 1) := by decide +kernel
theorem dX0_inspect_18 : decode cX0_inspect 18 = .ok (.iconst 1, 1) := by decide +kernel
theorem dX0_inspect_19 : decode cX0_inspect 19 = .ok (.putfield 33, 3) := by decide +kernel
theorem dX0_inspect_22 : decode cX0_inspect 22 = .ok (.aload_n 0, 1) := by decide +kernel
theorem dX0_inspect_23 : decode cX0_inspect 23 = .ok (.getfield 18, 3) := by decide +kernel
theorem dX0_inspect_26 : decode cX0_inspect 26 = .ok (.ireturn, 1) := by decide +kernel
theorem dX0_forgive_0 : decode cX0_forgive 0 = .ok (.aload_n 0, 1) := by decide +kernel
theorem dX0_forgive_1 : decode cX0_forgive 1 = .ok (.getfield 33, 3) := by decide +kernel
theorem dX0_forgive_4 : decode cX0_forgive 4 = .ok (.istore_n 1, 1) := by decide +kernel
theorem dX0_forgive_5 : decode cX0_forgive 5 = .ok (.aload_n 0, 1) := by decide +kernel
theorem dX0_forgive_6 : decode cX0_forgive 6 = .ok (.iconst 0, 1) := by decide +kernel
theorem dX0_forgive_7 : decode cX0_forgive 7 = .ok (.putfield 33, 3) := by decide +kernel
theorem dX0_forgive_10 : decode cX0_forgive 10 = .ok (.aload_n 0, 1) := by decide +kernel
theorem dX0_forgive_11 : decode cX0_forgive 11 = .ok (.aload_n 0, 1) := by decide +kernel
theorem dX0_forgive_12 : decode cX0_forgive 12 = .ok (.getfield 18, 3) := by decide +kernel
theorem dX0_forgive_15 : decode cX0_forgive 15 = .ok (.bipush 10, 2) := by decide +kernel
theorem dX0_forgive_17 : decode cX0_forgive 17 = .ok (.invokestatic 47, 3) := by decide +kernel
theorem dX0_forgive_20 : decode cX0_forgive 20 = .ok (.putfield 18, 3) := by decide +kernel
theorem dX0_forgive_23 : decode cX0_forgive 23 = .ok (.iload_n 1, 1) := by decide +kernel
theorem dX0_forgive_24 : decode cX0_forgive 24 = .ok (.ireturn, 1) := by decide +kernel
theorem dX0_fact_0 : decode cX0_fact 0 = .ok (.iload_n 1, 1) := by decide +kernel
theorem dX0_fact_1 : decode cX0_fact 1 = .ok (.tableswitch 78 0 6 #[43, 48, 53, 58, 63, 68, 73], 43) := by decide +kernel
theorem dX0_fact_44 : decode cX0_fact 44 = .ok (.aload_n 0, 1) := by decide +kernel
theorem dX0_fact_45 : decode cX0_fact 45 = .ok (.getfield 9, 3) := by decide +kernel
theorem dX0_fact_48 : decode cX0_fact 48 = .ok (.ireturn, 1) := by decide +kernel
theorem dX0_fact_49 : decode cX0_fact 49 = .ok (.aload_n 0, 1) := by decide +kernel
theorem dX0_fact_50 : decode cX0_fact 50 = .ok (.getfield 15, 3) := by decide +kernel
theorem dX0_fact_53 : decode cX0_fact 53 = .ok (.ireturn, 1) := by decide +kernel
theorem dX0_fact_54 : decode cX0_fact 54 = .ok (.aload_n 0, 1) := by decide +kernel
theorem dX0_fact_55 : decode cX0_fact 55 = .ok (.getfield 21, 3) := by decide +kernel
theorem dX0_fact_58 : decode cX0_fact 58 = .ok (.ireturn, 1) := by decide +kernel
theorem dX0_fact_59 : decode cX0_fact 59 = .ok (.aload_n 0, 1) := by decide +kernel
theorem dX0_fact_60 : decode cX0_fact 60 = .ok (.getfield 24, 3) := by decide +kernel
theorem dX0_fact_63 : decode cX0_fact 63 = .ok (.ireturn, 1) := by decide +kernel
theorem dX0_fact_64 : decode cX0_fact 64 = .ok (.aload_n 0, 1) := by decide +kernel
theorem dX0_fact_65 : decode cX0_fact 65 = .ok (.getfield 18, 3) := by decide +kernel
theorem dX0_fact_68 : decode cX0_fact 68 = .ok (.ireturn, 1) := by decide +kernel
theorem dX0_fact_69 : decode cX0_fact 69 = .ok (.aload_n 0, 1) := by decide +kernel
theorem dX0_fact_70 : decode cX0_fact 70 = .ok (.getfield 27, 3) := by decide +kernel
theorem dX0_fact_73 : decode cX0_fact 73 = .ok (.ireturn, 1) := by decide +kernel
theorem dX0_fact_74 : decode cX0_fact 74 = .ok (.aload_n 0, 1) := by decide +kernel
theorem dX0_fact_75 : decode cX0_fact 75 = .ok (.getfield 30, 3) := by decide +kernel
theorem dX0_fact_78 : decode cX0_fact 78 = .ok (.ireturn, 1) := by decide +kernel
theorem dX0_fact_79 : decode cX0_fact 79 = .ok (.aload_n 0, 1) := by decide +kernel
theorem dX0_fact_80 : decode cX0_fact 80 = .ok (.getfield 33, 3) := by decide +kernel
theorem dX0_fact_83 : decode cX0_fact 83 = .ok (.ifCond .eq 7, 3) := by decide +kernel
theorem dX0_fact_86 : decode cX0_fact 86 = .ok (.iconst 1, 1) := by decide +kernel
theorem dX0_fact_87 : decode cX0_fact 87 = .ok (.goto 4, 3) := by decide +kernel
theorem dX0_fact_90 : decode cX0_fact 90 = .ok (.iconst 0, 1) := by decide +kernel
theorem dX0_fact_91 : decode cX0_fact 91 = .ok (.ireturn, 1) := by decide +kernel
theorem dX1_init_0 : decode cX1_init 0 = .ok (.aload_n 0, 1) := by decide +kernel
theorem dX1_init_1 : decode cX1_init 1 = .ok (.invokespecial 3, 3) := by decide +kernel
theorem dX1_init_4 : decode cX1_init 4 = .ok (.aload_n 0, 1) := by decide +kernel
theorem dX1_init_5 : decode cX1_init 5 = .ok (.iload_n 1, 1) := by decide +kernel
theorem dX1_init_6 : decode cX1_init 6 = .ok (.putfield 9, 3) := by decide +kernel
theorem dX1_init_9 : decode cX1_init 9 = .ok (.aload_n 0, 1) := by decide +kernel
theorem dX1_init_10 : decode cX1_init 10 = .ok (.iload_n 2, 1) := by decide +kernel
theorem dX1_init_11 : decode cX1_init 11 = .ok (.putfield 15, 3) := by decide +kernel
theorem dX1_init_14 : decode cX1_init 14 = .ok (.return_, 1) := by decide +kernel
theorem dX1_becomeLike_0 : decode cX1_becomeLike 0 = .ok (.aload_n 0, 1) := by decide +kernel
theorem dX1_becomeLike_1 : decode cX1_becomeLike 1 = .ok (.aload_n 1, 1) := by decide +kernel
theorem dX1_becomeLike_2 : decode cX1_becomeLike 2 = .ok (.getfield 9, 3) := by decide +kernel
theorem dX1_becomeLike_5 : decode cX1_becomeLike 5 = .ok (.putfield 9, 3) := by decide +kernel
theorem dX1_becomeLike_8 : decode cX1_becomeLike 8 = .ok (.aload_n 0, 1) := by decide +kernel
theorem dX1_becomeLike_9 : decode cX1_becomeLike 9 = .ok (.aload_n 1, 1) := by decide +kernel
theorem dX1_becomeLike_10 : decode cX1_becomeLike 10 = .ok (.getfield 15, 3) := by decide +kernel
theorem dX1_becomeLike_13 : decode cX1_becomeLike 13 = .ok (.putfield 15, 3) := by decide +kernel
theorem dX1_becomeLike_16 : decode cX1_becomeLike 16 = .ok (.aload_n 0, 1) := by decide +kernel
theorem dX1_becomeLike_17 : decode cX1_becomeLike 17 = .ok (.aload_n 1, 1) := by decide +kernel
theorem dX1_becomeLike_18 : decode cX1_becomeLike 18 = .ok (.getfield 18, 3) := by decide +kernel
theorem dX1_becomeLike_21 : decode cX1_becomeLike 21 = .ok (.putfield 18, 3) := by decide +kernel
theorem dX1_becomeLike_24 : decode cX1_becomeLike 24 = .ok (.return_, 1) := by decide +kernel
theorem dX1_takeIn_0 : decode cX1_takeIn 0 = .ok (.iload_n 1, 1) := by decide +kernel
theorem dX1_takeIn_1 : decode cX1_takeIn 1 = .ok (.sipush 900, 3) := by decide +kernel
theorem dX1_takeIn_4 : decode cX1_takeIn 4 = .ok (.aload_n 0, 1) := by decide +kernel
theorem dX1_takeIn_5 : decode cX1_takeIn 5 = .ok (.getfield 9, 3) := by decide +kernel
theorem dX1_takeIn_8 : decode cX1_takeIn 8 = .ok (.isub, 1) := by decide +kernel
theorem dX1_takeIn_9 : decode cX1_takeIn 9 = .ok (.invokestatic 21, 3) := by decide +kernel
theorem dX1_takeIn_12 : decode cX1_takeIn 12 = .ok (.istore_n 2, 1) := by decide +kernel
theorem dX1_takeIn_13 : decode cX1_takeIn 13 = .ok (.aload_n 0, 1) := by decide +kernel
theorem dX1_takeIn_14 : decode cX1_takeIn 14 = .ok (.dup, 1) := by decide +kernel
theorem dX1_takeIn_15 : decode cX1_takeIn 15 = .ok (.getfield 9, 3) := by decide +kernel
theorem dX1_takeIn_18 : decode cX1_takeIn 18 = .ok (.iload_n 2, 1) := by decide +kernel
theorem dX1_takeIn_19 : decode cX1_takeIn 19 = .ok (.iadd, 1) := by decide +kernel
theorem dX1_takeIn_20 : decode cX1_takeIn 20 = .ok (.putfield 9, 3) := by decide +kernel
theorem dX1_takeIn_23 : decode cX1_takeIn 23 = .ok (.iload_n 1, 1) := by decide +kernel
theorem dX1_takeIn_24 : decode cX1_takeIn 24 = .ok (.iload_n 2, 1) := by decide +kernel
theorem dX1_takeIn_25 : decode cX1_takeIn 25 = .ok (.isub, 1) := by decide +kernel
theorem dX1_takeIn_26 : decode cX1_takeIn 26 = .ok (.ireturn, 1) := by decide +kernel
theorem dX1_giveOut_0 : decode cX1_giveOut 0 = .ok (.iload_n 1, 1) := by decide +kernel
theorem dX1_giveOut_1 : decode cX1_giveOut 1 = .ok (.aload_n 0, 1) := by decide +kernel
theorem dX1_giveOut_2 : decode cX1_giveOut 2 = .ok (.getfield 9, 3) := by decide +kernel
theorem dX1_giveOut_5 : decode cX1_giveOut 5 = .ok (.invokestatic 21, 3) := by decide +kernel
theorem dX1_giveOut_8 : decode cX1_giveOut 8 = .ok (.istore_n 2, 1) := by decide +kernel
theorem dX1_giveOut_9 : decode cX1_giveOut 9 = .ok (.aload_n 0, 1) := by decide +kernel
theorem dX1_giveOut_10 : decode cX1_giveOut 10 = .ok (.dup, 1) := by decide +kernel
theorem dX1_giveOut_11 : decode cX1_giveOut 11 = .ok (.getfield 9, 3) := by decide +kernel
theorem dX1_giveOut_14 : decode cX1_giveOut 14 = .ok (.iload_n 2, 1) := by decide +kernel
theorem dX1_giveOut_15 : decode cX1_giveOut 15 = .ok (.isub, 1) := by decide +kernel
theorem dX1_giveOut_16 : decode cX1_giveOut 16 = .ok (.putfield 9, 3) := by decide +kernel
theorem dX1_giveOut_19 : decode cX1_giveOut 19 = .ok (.iload_n 2, 1) := by decide +kernel
theorem dX1_giveOut_20 : decode cX1_giveOut 20 = .ok (.ireturn, 1) := by decide +kernel
set_option maxRecDepth 20000 in
theorem ggX1_feedWeevils_X1_giveOut : GoodIn wsX1_feedWeevils wsX1_giveOut := goodIn_r _ [12, 3, 4, 5, 6, 7, 13, 14, 15] (by decide +kernel) (by decide +kernel)
set_option maxRecDepth 20000 in
theorem gX1_feedWeevils_X1_giveOut : GoodIn wsX1_feedWeevils (wsV RX1 27 RX1 yX1_giveOut wsX1_giveOut) := goodIn_app (goodIn_of _ (by decide +kernel)) ggX1_feedWeevils_X1_giveOut
theorem dX1_feedWeevils_0 : decode cX1_feedWeevils 0 = .ok (.aload_n 0, 1) := by decide +kernel
theorem dX1_feedWeevils_1 : decode cX1_feedWeevils 1 = .ok (.dup, 1) := by decide +kernel
theorem dX1_feedWeevils_2 : decode cX1_feedWeevils 2 = .ok (.getfield 18, 3) := by decide +kernel
theorem dX1_feedWeevils_5 : decode cX1_feedWeevils 5 = .ok (.aload_n 0, 1) := by decide +kernel
theorem dX1_feedWeevils_6 : decode cX1_feedWeevils 6 = .ok (.aload_n 0, 1) := by decide +kernel
theorem dX1_feedWeevils_7 : decode cX1_feedWeevils 7 = .ok (.getfield 15, 3) := by decide +kernel
theorem dX1_feedWeevils_10 : decode cX1_feedWeevils 10 = .ok (.invokevirtual 27, 3) := by decide +kernel
theorem dX1_feedWeevils_13 : decode cX1_feedWeevils 13 = .ok (.iadd, 1) := by decide +kernel
theorem dX1_feedWeevils_14 : decode cX1_feedWeevils 14 = .ok (.putfield 18, 3) := by decide +kernel
theorem dX1_feedWeevils_17 : decode cX1_feedWeevils 17 = .ok (.aload_n 0, 1) := by decide +kernel
theorem dX1_feedWeevils_18 : decode cX1_feedWeevils 18 = .ok (.getfield 9, 3) := by decide +kernel
theorem dX1_feedWeevils_21 : decode cX1_feedWeevils 21 = .ok (.ifCond .le 28, 3) := by decide +kernel
theorem dX1_feedWeevils_24 : decode cX1_feedWeevils 24 = .ok (.aload_n 0, 1) := by decide +kernel
theorem dX1_feedWeevils_25 : decode cX1_feedWeevils 25 = .ok (.aload_n 0, 1) := by decide +kernel
theorem dX1_feedWeevils_26 : decode cX1_feedWeevils 26 = .ok (.getfield 15, 3) := by decide +kernel
theorem dX1_feedWeevils_29 : decode cX1_feedWeevils 29 = .ok (.aload_n 0, 1) := by decide +kernel
theorem dX1_feedWeevils_30 : decode cX1_feedWeevils 30 = .ok (.getfield 15, 3) := by decide +kernel
theorem dX1_feedWeevils_33 : decode cX1_feedWeevils 33 = .ok (.iconst 4, 1) := by decide +kernel
theorem dX1_feedWeevils_34 : decode cX1_feedWeevils 34 = .ok (.idiv, 1) := by decide +kernel
theorem dX1_feedWeevils_35 : decode cX1_feedWeevils 35 = .ok (.iadd, 1) := by decide +kernel
theorem dX1_feedWeevils_36 : decode cX1_feedWeevils 36 = .ok (.iconst 1, 1) := by decide +kernel
theorem dX1_feedWeevils_37 : decode cX1_feedWeevils 37 = .ok (.iadd, 1) := by decide +kernel
theorem dX1_feedWeevils_38 : decode cX1_feedWeevils 38 = .ok (.bipush 50, 2) := by decide +kernel
theorem dX1_feedWeevils_40 : decode cX1_feedWeevils 40 = .ok (.invokestatic 21, 3) := by decide +kernel
theorem dX1_feedWeevils_43 : decode cX1_feedWeevils 43 = .ok (.putfield 15, 3) := by decide +kernel
theorem dX1_feedWeevils_46 : decode cX1_feedWeevils 46 = .ok (.goto 13, 3) := by decide +kernel
theorem dX1_feedWeevils_49 : decode cX1_feedWeevils 49 = .ok (.aload_n 0, 1) := by decide +kernel
theorem dX1_feedWeevils_50 : decode cX1_feedWeevils 50 = .ok (.aload_n 0, 1) := by decide +kernel
theorem dX1_feedWeevils_51 : decode cX1_feedWeevils 51 = .ok (.getfield 15, 3) := by decide +kernel
theorem dX1_feedWeevils_54 : decode cX1_feedWeevils 54 = .ok (.iconst 2, 1) := by decide +kernel
theorem dX1_feedWeevils_55 : decode cX1_feedWeevils 55 = .ok (.idiv, 1) := by decide +kernel
theorem dX1_feedWeevils_56 : decode cX1_feedWeevils 56 = .ok (.putfield 15, 3) := by decide +kernel
theorem dX1_feedWeevils_59 : decode cX1_feedWeevils 59 = .ok (.return_, 1) := by decide +kernel
theorem dX1_smokeOut_0 : decode cX1_smokeOut 0 = .ok (.aload_n 0, 1) := by decide +kernel
theorem dX1_smokeOut_1 : decode cX1_smokeOut 1 = .ok (.getfield 15, 3) := by decide +kernel
theorem dX1_smokeOut_4 : decode cX1_smokeOut 4 = .ok (.istore_n 1, 1) := by decide +kernel
theorem dX1_smokeOut_5 : decode cX1_smokeOut 5 = .ok (.aload_n 0, 1) := by decide +kernel
theorem dX1_smokeOut_6 : decode cX1_smokeOut 6 = .ok (.iconst 0, 1) := by decide +kernel
theorem dX1_smokeOut_7 : decode cX1_smokeOut 7 = .ok (.putfield 15, 3) := by decide +kernel
theorem dX1_smokeOut_10 : decode cX1_smokeOut 10 = .ok (.aload_n 0, 1) := by decide +kernel
theorem dX1_smokeOut_11 : decode cX1_smokeOut 11 = .ok (.dup, 1) := by decide +kernel
theorem dX1_smokeOut_12 : decode cX1_smokeOut 12 = .ok (.getfield 9, 3) := by decide +kernel
theorem dX1_smokeOut_15 : decode cX1_smokeOut 15 = .ok (.aload_n 0, 1) := by decide +kernel
theorem dX1_smokeOut_16 : decode cX1_smokeOut 16 = .ok (.getfield 9, 3) := by decide +kernel
theorem dX1_smokeOut_19 : decode cX1_smokeOut 19 = .ok (.bipush 10, 2) := by decide +kernel
theorem dX1_smokeOut_21 : decode cX1_smokeOut 21 = .ok (.idiv, 1) := by decide +kernel
theorem dX1_smokeOut_22 : decode cX1_smokeOut 22 = .ok (.isub, 1) := by decide +kernel
theorem dX1_smokeOut_23 : decode cX1_smokeOut 23 = .ok (.putfield 9, 3) := by decide +kernel
theorem dX1_smokeOut_26 : decode cX1_smokeOut 26 = .ok (.iload_n 1, 1) := by decide +kernel
theorem dX1_smokeOut_27 : decode cX1_smokeOut 27 = .ok (.ireturn, 1) := by decide +kernel
theorem dX2_init_0 : decode cX2_init 0 = .ok (.aload_n 0, 1) := by decide +kernel
theorem dX2_init_1 : decode cX2_init 1 = .ok (.invokespecial 3, 3) := by decide +kernel
theorem dX2_init_4 : decode cX2_init 4 = .ok (.aload_n 0, 1) := by decide +kernel
theorem dX2_init_5 : decode cX2_init 5 = .ok (.bipush 24, 2) := by decide +kernel
theorem dX2_init_7 : decode cX2_init 7 = .ok (.newarray .int, 2) := by decide +kernel
theorem dX2_init_9 : decode cX2_init 9 = .ok (.putfield 9, 3) := by decide +kernel
theorem dX2_init_12 : decode cX2_init 12 = .ok (.aload_n 0, 1) := by decide +kernel
theorem dX2_init_13 : decode cX2_init 13 = .ok (.iconst 4, 1) := by decide +kernel
theorem dX2_init_14 : decode cX2_init 14 = .ok (.anewarray 15, 3) := by decide +kernel
theorem dX2_init_17 : decode cX2_init 17 = .ok (.putfield 17, 3) := by decide +kernel
theorem dX2_init_20 : decode cX2_init 20 = .ok (.aload_n 0, 1) := by decide +kernel
theorem dX2_init_21 : decode cX2_init 21 = .ok (.bipush 6, 2) := by decide +kernel
theorem dX2_init_23 : decode cX2_init 23 = .ok (.anewarray 21, 3) := by decide +kernel
theorem dX2_init_26 : decode cX2_init 26 = .ok (.putfield 23, 3) := by decide +kernel
theorem dX2_init_29 : decode cX2_init 29 = .ok (.aload_n 0, 1) := by decide +kernel
theorem dX2_init_30 : decode cX2_init 30 = .ok (.bipush 20, 2) := by decide +kernel
theorem dX2_init_32 : decode cX2_init 32 = .ok (.putfield 27, 3) := by decide +kernel
theorem dX2_init_35 : decode cX2_init 35 = .ok (.return_, 1) := by decide +kernel
set_option maxRecDepth 20000 in
theorem ggX2_becomeLike_X2_gateAt : GoodIn wsX2_becomeLike wsX2_gateAt := goodIn_r _ [12, 7, 66, 67, 68, 69, 70, 71, 72, 73, 74] (by decide +kernel) (by decide +kernel)
set_option maxRecDepth 20000 in
theorem gX2_becomeLike_X2_gateAt : GoodIn wsX2_becomeLike (wsV RX2 46 RX2 yX2_gateAt wsX2_gateAt) := goodIn_app (goodIn_of _ (by decide +kernel)) ggX2_becomeLike_X2_gateAt
set_option maxRecDepth 20000 in
theorem ggX2_becomeLike_X2_copyStores : GoodIn wsX2_becomeLike wsX2_copyStores := goodIn_r _ [16, 17, 18, 19, 20, 21, 22, 23, 11, 24, 25, 26, 27, 28, 29, 30, 31, 32, 33, 34, 35, 36, 37, 66, 67, 68, 69, 70, 71, 72, 73, 74, 75, 76, 77] (by decide +kernel) (by decide +kernel)
set_option maxRecDepth 20000 in
theorem gX2_becomeLike_X2_copyStores : GoodIn wsX2_becomeLike (wsV RX2 50 RX2 yX2_copyStores wsX2_copyStores) := goodIn_app (goodIn_of _ (by decide +kernel)) ggX2_becomeLike_X2_copyStores
set_option maxRecDepth 20000 in
theorem ggX2_becomeLike_X2_copyBakers : GoodIn wsX2_becomeLike wsX2_copyBakers := goodIn_r _ [41, 42, 43, 44, 45, 46, 47, 48, 11, 49, 50, 51, 52, 53, 29, 30, 54, 55, 56, 57, 58, 59, 60, 61, 62, 63, 64, 65, 66, 67, 68, 69, 70, 71, 72, 73, 74, 78, 79, 80, 81, 82, 83, 84, 85] (by decide +kernel) (by decide +kernel)
set_option maxRecDepth 20000 in
theorem gX2_becomeLike_X2_copyBakers : GoodIn wsX2_becomeLike (wsV RX2 54 RX2 yX2_copyBakers wsX2_copyBakers) := goodIn_app (goodIn_of _ (by decide +kernel)) ggX2_becomeLike_X2_copyBakers
theorem dX2_becomeLike_0 : decode cX2_becomeLike 0 = .ok (.aload_n 0, 1) := by decide +kernel
theorem dX2_becomeLike_1 : decode cX2_becomeLike 1 = .ok (.aload_n 1, 1) := by decide +kernel
theorem dX2_becomeLike_2 : decode cX2_becomeLike 2 = .ok (.getfield 31, 3) := by decide +kernel
theorem dX2_becomeLike_5 : decode cX2_becomeLike 5 = .ok (.putfield 31, 3) := by decide +kernel
theorem dX2_becomeLike_8 : decode cX2_becomeLike 8 = .ok (.aload_n 0, 1) := by decide +kernel
theorem dX2_becomeLike_9 : decode cX2_becomeLike 9 = .ok (.aload_n 1, 1) := by decide +kernel
theorem dX2_becomeLike_10 : decode cX2_becomeLike 10 = .ok (.getfield 27, 3) := by decide +kernel
theorem dX2_becomeLike_13 : decode cX2_becomeLike 13 = .ok (.putfield 27, 3) := by decide +kernel
theorem dX2_becomeLike_16 : decode cX2_becomeLike 16 = .ok (.aload_n 0, 1) := by decide +kernel
theorem dX2_becomeLike_17 : decode cX2_becomeLike 17 = .ok (.aload_n 1, 1) := by decide +kernel
theorem dX2_becomeLike_18 : decode cX2_becomeLike 18 = .ok (.getfield 34, 3) := by decide +kernel
theorem dX2_becomeLike_21 : decode cX2_becomeLike 21 = .ok (.putfield 34, 3) := by decide +kernel
theorem dX2_becomeLike_24 : decode cX2_becomeLike 24 = .ok (.aload_n 0, 1) := by decide +kernel
theorem dX2_becomeLike_25 : decode cX2_becomeLike 25 = .ok (.aload_n 1, 1) := by decide +kernel
theorem dX2_becomeLike_26 : decode cX2_becomeLike 26 = .ok (.getfield 37, 3) := by decide +kernel
theorem dX2_becomeLike_29 : decode cX2_becomeLike 29 = .ok (.putfield 37, 3) := by decide +kernel
theorem dX2_becomeLike_32 : decode cX2_becomeLike 32 = .ok (.aload_n 0, 1) := by decide +kernel
theorem dX2_becomeLike_33 : decode cX2_becomeLike 33 = .ok (.aload_n 1, 1) := by decide +kernel
theorem dX2_becomeLike_34 : decode cX2_becomeLike 34 = .ok (.getfield 40, 3) := by decide +kernel
theorem dX2_becomeLike_37 : decode cX2_becomeLike 37 = .ok (.putfield 40, 3) := by decide +kernel
theorem dX2_becomeLike_40 : decode cX2_becomeLike 40 = .ok (.aload_n 0, 1) := by decide +kernel
theorem dX2_becomeLike_41 : decode cX2_becomeLike 41 = .ok (.aload_n 1, 1) := by decide +kernel
theorem dX2_becomeLike_42 : decode cX2_becomeLike 42 = .ok (.getfield 43, 3) := by decide +kernel
theorem dX2_becomeLike_45 : decode cX2_becomeLike 45 = .ok (.putfield 43, 3) := by decide +kernel
theorem dX2_becomeLike_48 : decode cX2_becomeLike 48 = .ok (.iconst 0, 1) := by decide +kernel
theorem dX2_becomeLike_49 : decode cX2_becomeLike 49 = .ok (.istore_n 2, 1) := by decide +kernel
theorem dX2_becomeLike_50 : decode cX2_becomeLike 50 = .ok (.iload_n 2, 1) := by decide +kernel
theorem dX2_becomeLike_51 : decode cX2_becomeLike 51 = .ok (.aload_n 0, 1) := by decide +kernel
theorem dX2_becomeLike_52 : decode cX2_becomeLike 52 = .ok (.getfield 9, 3) := by decide +kernel
theorem dX2_becomeLike_55 : decode cX2_becomeLike 55 = .ok (.arraylength, 1) := by decide +kernel
theorem dX2_becomeLike_56 : decode cX2_becomeLike 56 = .ok (.if_icmp .ge 20, 3) := by decide +kernel
theorem dX2_becomeLike_59 : decode cX2_becomeLike 59 = .ok (.aload_n 0, 1) := by decide +kernel
theorem dX2_becomeLike_60 : decode cX2_becomeLike 60 = .ok (.getfield 9, 3) := by decide +kernel
theorem dX2_becomeLike_63 : decode cX2_becomeLike 63 = .ok (.iload_n 2, 1) := by decide +kernel
theorem dX2_becomeLike_64 : decode cX2_becomeLike 64 = .ok (.aload_n 1, 1) := by decide +kernel
theorem dX2_becomeLike_65 : decode cX2_becomeLike 65 = .ok (.iload_n 2, 1) := by decide +kernel
theorem dX2_becomeLike_66 : decode cX2_becomeLike 66 = .ok (.invokevirtual 46, 3) := by decide +kernel
theorem dX2_becomeLike_69 : decode cX2_becomeLike 69 = .ok (.iastore, 1) := by decide +kernel
theorem dX2_becomeLike_70 : decode cX2_becomeLike 70 = .ok (.iinc 2 1, 3) := by decide +kernel
theorem dX2_becomeLike_73 : decode cX2_becomeLike 73 = .ok (.goto (-23), 3) := by decide +kernel
theorem dX2_becomeLike_76 : decode cX2_becomeLike 76 = .ok (.aload_n 0, 1) := by decide +kernel
theorem dX2_becomeLike_77 : decode cX2_becomeLike 77 = .ok (.aload_n 1, 1) := by decide +kernel
theorem dX2_becomeLike_78 : decode cX2_becomeLike 78 = .ok (.invokevirtual 50, 3) := by decide +kernel
theorem dX2_becomeLike_81 : decode cX2_becomeLike 81 = .ok (.aload_n 0, 1) := by decide +kernel
theorem dX2_becomeLike_82 : decode cX2_becomeLike 82 = .ok (.aload_n 1, 1) := by decide +kernel
theorem dX2_becomeLike_83 : decode cX2_becomeLike 83 = .ok (.invokevirtual 54, 3) := by decide +kernel
theorem dX2_becomeLike_86 : decode cX2_becomeLike 86 = .ok (.return_, 1) := by decide +kernel
set_option maxRecDepth 20000 in
theorem ggX2_copyStores_X2_storeAt : GoodIn wsX2_copyStores wsX2_storeAt := goodIn_r _ [9, 1, 23, 24, 25, 26, 27, 28, 29, 30, 31] (by decide +kernel) (by decide +kernel)
set_option maxRecDepth 20000 in
theorem gX2_copyStores_X2_storeAt : GoodIn wsX2_copyStores (wsV RX2 57 RX2 yX2_storeAt wsX2_storeAt) := goodIn_app (goodIn_of _ (by decide +kernel)) ggX2_copyStores_X2_storeAt
set_option maxRecDepth 20000 in
theorem ggX2_copyStores_X1_init : GoodIn wsX2_copyStores wsX1_init := goodIn_r _ [12, 13, 14, 15, 16, 17, 32, 33, 34] (by decide +kernel) (by decide +kernel)
set_option maxRecDepth 20000 in
theorem gX2_copyStores_X1_init : GoodIn wsX2_copyStores (wsX1_init) := ggX2_copyStores_X1_init
set_option maxRecDepth 20000 in
theorem ggX2_copyStores_X1_becomeLike : GoodIn wsX2_copyStores wsX1_becomeLike := goodIn_r _ [21, 16, 17, 22, 32, 33, 34] (by decide +kernel) (by decide +kernel)
set_option maxRecDepth 20000 in
theorem gX2_copyStores_X1_becomeLike : GoodIn wsX2_copyStores (wsV RX2 64 RX1 yX1_becomeLike wsX1_becomeLike) := goodIn_app (goodIn_of _ (by decide +kernel)) ggX2_copyStores_X1_becomeLike
theorem dX2_copyStores_0 : decode cX2_copyStores 0 = .ok (.iconst 0, 1) := by decide +kernel
theorem dX2_copyStores_1 : decode cX2_copyStores 1 = .ok (.istore_n 2, 1) := by decide +kernel
theorem dX2_copyStores_2 : decode cX2_copyStores 2 = .ok (.iload_n 2, 1) := by decide +kernel
theorem dX2_copyStores_3 : decode cX2_copyStores 3 = .ok (.aload_n 0, 1) := by decide +kernel
theorem dX2_copyStores_4 : decode cX2_copyStores 4 = .ok (.getfield 17, 3) := by decide +kernel
theorem dX2_copyStores_7 : decode cX2_copyStores 7 = .ok (.arraylength, 1) := by decide +kernel
theorem dX2_copyStores_8 : decode cX2_copyStores 8 = .ok (.if_icmp .ge 72, 3) := by decide +kernel
theorem dX2_copyStores_11 : decode cX2_copyStores 11 = .ok (.aload_n 1, 1) := by decide +kernel
theorem dX2_copyStores_12 : decode cX2_copyStores 12 = .ok (.iload_n 2, 1) := by decide +kernel
theorem dX2_copyStores_13 : decode cX2_copyStores 13 = .ok (.invokevirtual 57, 3) := by decide +kernel
theorem dX2_copyStores_16 : decode cX2_copyStores 16 = .ok (.astore_n 3, 1) := by decide +kernel
theorem dX2_copyStores_17 : decode cX2_copyStores 17 = .ok (.aload_n 3, 1) := by decide +kernel
theorem dX2_copyStores_18 : decode cX2_copyStores 18 = .ok (.ifnonnull 13, 3) := by decide +kernel
theorem dX2_copyStores_21 : decode cX2_copyStores 21 = .ok (.aload_n 0, 1) := by decide +kernel
theorem dX2_copyStores_22 : decode cX2_copyStores 22 = .ok (.getfield 17, 3) := by decide +kernel
theorem dX2_copyStores_25 : decode cX2_copyStores 25 = .ok (.iload_n 2, 1) := by decide +kernel
theorem dX2_copyStores_26 : decode cX2_copyStores 26 = .ok (.aconst_null, 1) := by decide +kernel
theorem dX2_copyStores_27 : decode cX2_copyStores 27 = .ok (.aastore, 1) := by decide +kernel
theorem dX2_copyStores_28 : decode cX2_copyStores 28 = .ok (.goto 46, 3) := by decide +kernel
theorem dX2_copyStores_31 : decode cX2_copyStores 31 = .ok (.aload_n 0, 1) := by decide +kernel
theorem dX2_copyStores_32 : decode cX2_copyStores 32 = .ok (.getfield 17, 3) := by decide +kernel
theorem dX2_copyStores_35 : decode cX2_copyStores 35 = .ok (.iload_n 2, 1) := by decide +kernel
theorem dX2_copyStores_36 : decode cX2_copyStores 36 = .ok (.aaload, 1) := by decide +kernel
theorem dX2_copyStores_37 : decode cX2_copyStores 37 = .ok (.ifnonnull 15, 3) := by decide +kernel
theorem dX2_copyStores_40 : decode cX2_copyStores 40 = .ok (.new 15, 3) := by decide +kernel
theorem dX2_copyStores_43 : decode cX2_copyStores 43 = .ok (.dup, 1) := by decide +kernel
theorem dX2_copyStores_44 : decode cX2_copyStores 44 = .ok (.iconst 0, 1) := by decide +kernel
theorem dX2_copyStores_45 : decode cX2_copyStores 45 = .ok (.iconst 0, 1) := by decide +kernel
theorem dX2_copyStores_46 : decode cX2_copyStores 46 = .ok (.invokespecial 61, 3) := by decide +kernel
theorem dX2_copyStores_49 : decode cX2_copyStores 49 = .ok (.goto 9, 3) := by decide +kernel
theorem dX2_copyStores_52 : decode cX2_copyStores 52 = .ok (.aload_n 0, 1) := by decide +kernel
theorem dX2_copyStores_53 : decode cX2_copyStores 53 = .ok (.getfield 17, 3) := by decide +kernel
theorem dX2_copyStores_56 : decode cX2_copyStores 56 = .ok (.iload_n 2, 1) := by decide +kernel
theorem dX2_copyStores_57 : decode cX2_copyStores 57 = .ok (.aaload, 1) := by decide +kernel
theorem dX2_copyStores_58 : decode cX2_copyStores 58 = .ok (.astore 4, 2) := by decide +kernel
theorem dX2_copyStores_60 : decode cX2_copyStores 60 = .ok (.aload 4, 2) := by decide +kernel
theorem dX2_copyStores_62 : decode cX2_copyStores 62 = .ok (.aload_n 3, 1) := by decide +kernel
theorem dX2_copyStores_63 : decode cX2_copyStores 63 = .ok (.invokevirtual 64, 3) := by decide +kernel
theorem dX2_copyStores_66 : decode cX2_copyStores 66 = .ok (.aload_n 0, 1) := by decide +kernel
theorem dX2_copyStores_67 : decode cX2_copyStores 67 = .ok (.getfield 17, 3) := by decide +kernel
theorem dX2_copyStores_70 : decode cX2_copyStores 70 = .ok (.iload_n 2, 1) := by decide +kernel
theorem dX2_copyStores_71 : decode cX2_copyStores 71 = .ok (.aload 4, 2) := by decide +kernel
theorem dX2_copyStores_73 : decode cX2_copyStores 73 = .ok (.aastore, 1) := by decide +kernel
theorem dX2_copyStores_74 : decode cX2_copyStores 74 = .ok (.iinc 2 1, 3) := by decide +kernel
theorem dX2_copyStores_77 : decode cX2_copyStores 77 = .ok (.goto (-75), 3) := by decide +kernel
theorem dX2_copyStores_80 : decode cX2_copyStores 80 = .ok (.return_, 1) := by decide +kernel
set_option maxRecDepth 20000 in
theorem ggX2_copyBakers_X2_bakerAt : GoodIn wsX2_copyBakers wsX2_bakerAt := goodIn_r _ [9, 1, 28, 29, 30, 31, 32, 33, 34, 35, 36] (by decide +kernel) (by decide +kernel)
set_option maxRecDepth 20000 in
theorem gX2_copyBakers_X2_bakerAt : GoodIn wsX2_copyBakers (wsV RX2 68 RX2 yX2_bakerAt wsX2_bakerAt) := goodIn_app (goodIn_of _ (by decide +kernel)) ggX2_copyBakers_X2_bakerAt
set_option maxRecDepth 20000 in
theorem ggX2_copyBakers_X0_init : GoodIn wsX2_copyBakers wsX0_init := goodIn_r _ [12, 13, 14, 15, 16, 17, 18, 19, 37, 38, 39, 40, 41, 42, 43, 44] (by decide +kernel) (by decide +kernel)
set_option maxRecDepth 20000 in
theorem gX2_copyBakers_X0_init : GoodIn wsX2_copyBakers (wsX0_init) := ggX2_copyBakers_X0_init
set_option maxRecDepth 20000 in
theorem ggX2_copyBakers_X0_becomeLike : GoodIn wsX2_copyBakers wsX0_becomeLike := goodIn_r _ [23, 16, 17, 19, 24, 18, 25, 26, 27, 37, 38, 39, 40, 41, 42, 43, 44] (by decide +kernel) (by decide +kernel)
set_option maxRecDepth 20000 in
theorem gX2_copyBakers_X0_becomeLike : GoodIn wsX2_copyBakers (wsV RX2 75 RX0 yX0_becomeLike wsX0_becomeLike) := goodIn_app (goodIn_of _ (by decide +kernel)) ggX2_copyBakers_X0_becomeLike
theorem dX2_copyBakers_0 : decode cX2_copyBakers 0 = .ok (.iconst 0, 1) := by decide +kernel
theorem dX2_copyBakers_1 : decode cX2_copyBakers 1 = .ok (.istore_n 2, 1) := by decide +kernel
theorem dX2_copyBakers_2 : decode cX2_copyBakers 2 = .ok (.iload_n 2, 1) := by decide +kernel
theorem dX2_copyBakers_3 : decode cX2_copyBakers 3 = .ok (.aload_n 0, 1) := by decide +kernel
theorem dX2_copyBakers_4 : decode cX2_copyBakers 4 = .ok (.getfield 23, 3) := by decide +kernel
theorem dX2_copyBakers_7 : decode cX2_copyBakers 7 = .ok (.arraylength, 1) := by decide +kernel
theorem dX2_copyBakers_8 : decode cX2_copyBakers 8 = .ok (.if_icmp .ge 74, 3) := by decide +kernel
theorem dX2_copyBakers_11 : decode cX2_copyBakers 11 = .ok (.aload_n 1, 1) := by decide +kernel
theorem dX2_copyBakers_12 : decode cX2_copyBakers 12 = .ok (.iload_n 2, 1) := by decide +kernel
theorem dX2_copyBakers_13 : decode cX2_copyBakers 13 = .ok (.invokevirtual 68, 3) := by decide +kernel
theorem dX2_copyBakers_16 : decode cX2_copyBakers 16 = .ok (.astore_n 3, 1) := by decide +kernel
theorem dX2_copyBakers_17 : decode cX2_copyBakers 17 = .ok (.aload_n 3, 1) := by decide +kernel
theorem dX2_copyBakers_18 : decode cX2_copyBakers 18 = .ok (.ifnonnull 13, 3) := by decide +kernel
theorem dX2_copyBakers_21 : decode cX2_copyBakers 21 = .ok (.aload_n 0, 1) := by decide +kernel
theorem dX2_copyBakers_22 : decode cX2_copyBakers 22 = .ok (.getfield 23, 3) := by decide +kernel
theorem dX2_copyBakers_25 : decode cX2_copyBakers 25 = .ok (.iload_n 2, 1) := by decide +kernel
theorem dX2_copyBakers_26 : decode cX2_copyBakers 26 = .ok (.aconst_null, 1) := by decide +kernel
theorem dX2_copyBakers_27 : decode cX2_copyBakers 27 = .ok (.aastore, 1) := by decide +kernel
theorem dX2_copyBakers_28 : decode cX2_copyBakers 28 = .ok (.goto 48, 3) := by decide +kernel
theorem dX2_copyBakers_31 : decode cX2_copyBakers 31 = .ok (.aload_n 0, 1) := by decide +kernel
theorem dX2_copyBakers_32 : decode cX2_copyBakers 32 = .ok (.getfield 23, 3) := by decide +kernel
theorem dX2_copyBakers_35 : decode cX2_copyBakers 35 = .ok (.iload_n 2, 1) := by decide +kernel
theorem dX2_copyBakers_36 : decode cX2_copyBakers 36 = .ok (.aaload, 1) := by decide +kernel
theorem dX2_copyBakers_37 : decode cX2_copyBakers 37 = .ok (.ifnonnull 17, 3) := by decide +kernel
theorem dX2_copyBakers_40 : decode cX2_copyBakers 40 = .ok (.new 21, 3) := by decide +kernel
theorem dX2_copyBakers_43 : decode cX2_copyBakers 43 = .ok (.dup, 1) := by decide +kernel
theorem dX2_copyBakers_44 : decode cX2_copyBakers 44 = .ok (.iconst 0, 1) := by decide +kernel
theorem dX2_copyBakers_45 : decode cX2_copyBakers 45 = .ok (.iconst 0, 1) := by decide +kernel
theorem dX2_copyBakers_46 : decode cX2_copyBakers 46 = .ok (.iconst 0, 1) := by decide +kernel
theorem dX2_copyBakers_47 : decode cX2_copyBakers 47 = .ok (.iconst 0, 1) := by decide +kernel
theorem dX2_copyBakers_48 : decode cX2_copyBakers 48 = .ok (.invokespecial 72, 3) := by decide +kernel
theorem dX2_copyBakers_51 : decode cX2_copyBakers 51 = .ok (.goto 9, 3) := by decide +kernel
theorem dX2_copyBakers_54 : decode cX2_copyBakers 54 = .ok (.aload_n 0, 1) := by decide +kernel
theorem dX2_copyBakers_55 : decode cX2_copyBakers 55 = .ok (.getfield 23, 3) := by decide +kernel
theorem dX2_copyBakers_58 : decode cX2_copyBakers 58 = .ok (.iload_n 2, 1) := by decide +kernel
theorem dX2_copyBakers_59 : decode cX2_copyBakers 59 = .ok (.aaload, 1) := by decide +kernel
theorem dX2_copyBakers_60 : decode cX2_copyBakers 60 = .ok (.astore 4, 2) := by decide +kernel
theorem dX2_copyBakers_62 : decode cX2_copyBakers 62 = .ok (.aload 4, 2) := by decide +kernel
theorem dX2_copyBakers_64 : decode cX2_copyBakers 64 = .ok (.aload_n 3, 1) := by decide +kernel
theorem dX2_copyBakers_65 : decode cX2_copyBakers 65 = .ok (.invokevirtual 75, 3) := by decide +kernel
theorem dX2_copyBakers_68 : decode cX2_copyBakers 68 = .ok (.aload_n 0, 1) := by decide +kernel
theorem dX2_copyBakers_69 : decode cX2_copyBakers 69 = .ok (.getfield 23, 3) := by decide +kernel
theorem dX2_copyBakers_72 : decode cX2_copyBakers 72 = .ok (.iload_n 2, 1) := by decide +kernel
theorem dX2_copyBakers_73 : decode cX2_copyBakers 73 = .ok (.aload 4, 2) := by decide +kernel
theorem dX2_copyBakers_75 : decode cX2_copyBakers 75 = .ok (.aastore, 1) := by decide +kernel
theorem dX2_copyBakers_76 : decode cX2_copyBakers 76 = .ok (.iinc 2 1, 3) := by decide +kernel
theorem dX2_copyBakers_79 : decode cX2_copyBakers 79 = .ok (.goto (-77), 3) := by decide +kernel
theorem dX2_copyBakers_82 : decode cX2_copyBakers 82 = .ok (.return_, 1) := by decide +kernel
theorem dX2_gateAt_0 : decode cX2_gateAt 0 = .ok (.iload_n 1, 1) := by decide +kernel
theorem dX2_gateAt_1 : decode cX2_gateAt 1 = .ok (.ifCond .lt 21, 3) := by decide +kernel
theorem dX2_gateAt_4 : decode cX2_gateAt 4 = .ok (.iload_n 1, 1) := by decide +kernel
theorem dX2_gateAt_5 : decode cX2_gateAt 5 = .ok (.aload_n 0, 1) := by decide +kernel
theorem dX2_gateAt_6 : decode cX2_gateAt 6 = .ok (.getfield 9, 3) := by decide +kernel
theorem dX2_gateAt_9 : decode cX2_gateAt 9 = .ok (.arraylength, 1) := by decide +kernel
theorem dX2_gateAt_10 : decode cX2_gateAt 10 = .ok (.if_icmp .ge 12, 3) := by decide +kernel
theorem dX2_gateAt_13 : decode cX2_gateAt 13 = .ok (.aload_n 0, 1) := by decide +kernel
theorem dX2_gateAt_14 : decode cX2_gateAt 14 = .ok (.getfield 9, 3) := by decide +kernel
theorem dX2_gateAt_17 : decode cX2_gateAt 17 = .ok (.iload_n 1, 1) := by decide +kernel
theorem dX2_gateAt_18 : decode cX2_gateAt 18 = .ok (.iaload, 1) := by decide +kernel
theorem dX2_gateAt_19 : decode cX2_gateAt 19 = .ok (.goto 4, 3) := by decide +kernel
theorem dX2_gateAt_22 : decode cX2_gateAt 22 = .ok (.iconst 0, 1) := by decide +kernel
theorem dX2_gateAt_23 : decode cX2_gateAt 23 = .ok (.ireturn, 1) := by decide +kernel
set_option maxRecDepth 20000 in
theorem ggX2_changeGate_X2_gateAt : GoodIn wsX2_changeGate wsX2_gateAt := goodIn_r _ [6, 1, 7, 8, 9, 10, 11, 12, 13, 14, 15] (by decide +kernel) (by decide +kernel)
set_option maxRecDepth 20000 in
theorem gX2_changeGate_X2_gateAt : GoodIn wsX2_changeGate (wsV RX2 46 RX2 yX2_gateAt wsX2_gateAt) := goodIn_app (goodIn_of _ (by decide +kernel)) ggX2_changeGate_X2_gateAt
theorem dX2_changeGate_0 : decode cX2_changeGate 0 = .ok (.aload_n 0, 1) := by decide +kernel
theorem dX2_changeGate_1 : decode cX2_changeGate 1 = .ok (.iload_n 1, 1) := by decide +kernel
theorem dX2_changeGate_2 : decode cX2_changeGate 2 = .ok (.invokevirtual 46, 3) := by decide +kernel
theorem dX2_changeGate_5 : decode cX2_changeGate 5 = .ok (.istore_n 3, 1) := by decide +kernel
theorem dX2_changeGate_6 : decode cX2_changeGate 6 = .ok (.iload_n 1, 1) := by decide +kernel
theorem dX2_changeGate_7 : decode cX2_changeGate 7 = .ok (.ifCond .lt 19, 3) := by decide +kernel
theorem dX2_changeGate_10 : decode cX2_changeGate 10 = .ok (.iload_n 1, 1) := by decide +kernel
theorem dX2_changeGate_11 : decode cX2_changeGate 11 = .ok (.aload_n 0, 1) := by decide +kernel
theorem dX2_changeGate_12 : decode cX2_changeGate 12 = .ok (.getfield 9, 3) := by decide +kernel
theorem dX2_changeGate_15 : decode cX2_changeGate 15 = .ok (.arraylength, 1) := by decide +kernel
theorem dX2_changeGate_16 : decode cX2_changeGate 16 = .ok (.if_icmp .ge 10, 3) := by decide +kernel
theorem dX2_changeGate_19 : decode cX2_changeGate 19 = .ok (.aload_n 0, 1) := by decide +kernel
theorem dX2_changeGate_20 : decode cX2_changeGate 20 = .ok (.getfield 9, 3) := by decide +kernel
theorem dX2_changeGate_23 : decode cX2_changeGate 23 = .ok (.iload_n 1, 1) := by decide +kernel
theorem dX2_changeGate_24 : decode cX2_changeGate 24 = .ok (.iload_n 2, 1) := by decide +kernel
theorem dX2_changeGate_25 : decode cX2_changeGate 25 = .ok (.iastore, 1) := by decide +kernel
theorem dX2_changeGate_26 : decode cX2_changeGate 26 = .ok (.iload_n 3, 1) := by decide +kernel
theorem dX2_changeGate_27 : decode cX2_changeGate 27 = .ok (.ireturn, 1) := by decide +kernel
theorem dX2_storeAt_0 : decode cX2_storeAt 0 = .ok (.iload_n 1, 1) := by decide +kernel
theorem dX2_storeAt_1 : decode cX2_storeAt 1 = .ok (.ifCond .lt 21, 3) := by decide +kernel
theorem dX2_storeAt_4 : decode cX2_storeAt 4 = .ok (.iload_n 1, 1) := by decide +kernel
theorem dX2_storeAt_5 : decode cX2_storeAt 5 = .ok (.aload_n 0, 1) := by decide +kernel
theorem dX2_storeAt_6 : decode cX2_storeAt 6 = .ok (.getfield 17, 3) := by decide +kernel
theorem dX2_storeAt_9 : decode cX2_storeAt 9 = .ok (.arraylength, 1) := by decide +kernel
theorem dX2_storeAt_10 : decode cX2_storeAt 10 = .ok (.if_icmp .ge 12, 3) := by decide +kernel
theorem dX2_storeAt_13 : decode cX2_storeAt 13 = .ok (.aload_n 0, 1) := by decide +kernel
theorem dX2_storeAt_14 : decode cX2_storeAt 14 = .ok (.getfield 17, 3) := by decide +kernel
theorem dX2_storeAt_17 : decode cX2_storeAt 17 = .ok (.iload_n 1, 1) := by decide +kernel
theorem dX2_storeAt_18 : decode cX2_storeAt 18 = .ok (.aaload, 1) := by decide +kernel
theorem dX2_storeAt_19 : decode cX2_storeAt 19 = .ok (.goto 4, 3) := by decide +kernel
theorem dX2_storeAt_22 : decode cX2_storeAt 22 = .ok (.aconst_null, 1) := by decide +kernel
theorem dX2_storeAt_23 : decode cX2_storeAt 23 = .ok (.areturn, 1) := by decide +kernel
theorem dX2_bakerAt_0 : decode cX2_bakerAt 0 = .ok (.iload_n 1, 1) := by decide +kernel
theorem dX2_bakerAt_1 : decode cX2_bakerAt 1 = .ok (.ifCond .lt 21, 3) := by decide +kernel
theorem dX2_bakerAt_4 : decode cX2_bakerAt 4 = .ok (.iload_n 1, 1) := by decide +kernel
theorem dX2_bakerAt_5 : decode cX2_bakerAt 5 = .ok (.aload_n 0, 1) := by decide +kernel
theorem dX2_bakerAt_6 : decode cX2_bakerAt 6 = .ok (.getfield 23, 3) := by decide +kernel
theorem dX2_bakerAt_9 : decode cX2_bakerAt 9 = .ok (.arraylength, 1) := by decide +kernel
theorem dX2_bakerAt_10 : decode cX2_bakerAt 10 = .ok (.if_icmp .ge 12, 3) := by decide +kernel
theorem dX2_bakerAt_13 : decode cX2_bakerAt 13 = .ok (.aload_n 0, 1) := by decide +kernel
theorem dX2_bakerAt_14 : decode cX2_bakerAt 14 = .ok (.getfield 23, 3) := by decide +kernel
theorem dX2_bakerAt_17 : decode cX2_bakerAt 17 = .ok (.iload_n 1, 1) := by decide +kernel
theorem dX2_bakerAt_18 : decode cX2_bakerAt 18 = .ok (.aaload, 1) := by decide +kernel
theorem dX2_bakerAt_19 : decode cX2_bakerAt 19 = .ok (.goto 4, 3) := by decide +kernel
theorem dX2_bakerAt_22 : decode cX2_bakerAt 22 = .ok (.aconst_null, 1) := by decide +kernel
theorem dX2_bakerAt_23 : decode cX2_bakerAt 23 = .ok (.areturn, 1) := by decide +kernel
set_option maxRecDepth 20000 in
theorem ggX2_addStore_X1_init : GoodIn wsX2_addStore wsX1_init := goodIn_r _ [7, 8, 9, 10, 11, 12, 22, 23, 24] (by decide +kernel) (by decide +kernel)
set_option maxRecDepth 20000 in
theorem gX2_addStore_X1_init : GoodIn wsX2_addStore (wsX1_init) := ggX2_addStore_X1_init
theorem dX2_addStore_0 : decode cX2_addStore 0 = .ok (.iconst 0, 1) := by decide +kernel
theorem dX2_addStore_1 : decode cX2_addStore 1 = .ok (.istore_n 3, 1) := by decide +kernel
theorem dX2_addStore_2 : decode cX2_addStore 2 = .ok (.iload_n 3, 1) := by decide +kernel
theorem dX2_addStore_3 : decode cX2_addStore 3 = .ok (.aload_n 0, 1) := by decide +kernel
theorem dX2_addStore_4 : decode cX2_addStore 4 = .ok (.getfield 17, 3) := by decide +kernel
theorem dX2_addStore_7 : decode cX2_addStore 7 = .ok (.arraylength, 1) := by decide +kernel
theorem dX2_addStore_8 : decode cX2_addStore 8 = .ok (.if_icmp .ge 35, 3) := by decide +kernel
theorem dX2_addStore_11 : decode cX2_addStore 11 = .ok (.aload_n 0, 1) := by decide +kernel
theorem dX2_addStore_12 : decode cX2_addStore 12 = .ok (.getfield 17, 3) := by decide +kernel
theorem dX2_addStore_15 : decode cX2_addStore 15 = .ok (.iload_n 3, 1) := by decide +kernel
theorem dX2_addStore_16 : decode cX2_addStore 16 = .ok (.aaload, 1) := by decide +kernel
theorem dX2_addStore_17 : decode cX2_addStore 17 = .ok (.ifnonnull 20, 3) := by decide +kernel
theorem dX2_addStore_20 : decode cX2_addStore 20 = .ok (.aload_n 0, 1) := by decide +kernel
theorem dX2_addStore_21 : decode cX2_addStore 21 = .ok (.getfield 17, 3) := by decide +kernel
theorem dX2_addStore_24 : decode cX2_addStore 24 = .ok (.iload_n 3, 1) := by decide +kernel
theorem dX2_addStore_25 : decode cX2_addStore 25 = .ok (.new 15, 3) := by decide +kernel
theorem dX2_addStore_28 : decode cX2_addStore 28 = .ok (.dup, 1) := by decide +kernel
theorem dX2_addStore_29 : decode cX2_addStore 29 = .ok (.iload_n 1, 1) := by decide +kernel
theorem dX2_addStore_30 : decode cX2_addStore 30 = .ok (.iload_n 2, 1) := by decide +kernel
theorem dX2_addStore_31 : decode cX2_addStore 31 = .ok (.invokespecial 61, 3) := by decide +kernel
theorem dX2_addStore_34 : decode cX2_addStore 34 = .ok (.aastore, 1) := by decide +kernel
theorem dX2_addStore_35 : decode cX2_addStore 35 = .ok (.iload_n 3, 1) := by decide +kernel
theorem dX2_addStore_36 : decode cX2_addStore 36 = .ok (.ireturn, 1) := by decide +kernel
theorem dX2_addStore_37 : decode cX2_addStore 37 = .ok (.iinc 3 1, 3) := by decide +kernel
theorem dX2_addStore_40 : decode cX2_addStore 40 = .ok (.goto (-38), 3) := by decide +kernel
theorem dX2_addStore_43 : decode cX2_addStore 43 = .ok (.iconst (-1), 1) := by decide +kernel
theorem dX2_addStore_44 : decode cX2_addStore 44 = .ok (.ireturn, 1) := by decide +kernel
set_option maxRecDepth 20000 in
theorem ggX2_addBaker_X0_init : GoodIn wsX2_addBaker wsX0_init := goodIn_r _ [7, 8, 9, 10, 11, 12, 13, 14, 24, 25, 26, 27, 28, 29, 30, 31] (by decide +kernel) (by decide +kernel)
set_option maxRecDepth 20000 in
theorem gX2_addBaker_X0_init : GoodIn wsX2_addBaker (wsX0_init) := ggX2_addBaker_X0_init
theorem dX2_addBaker_0 : decode cX2_addBaker 0 = .ok (.iconst 0, 1) := by decide +kernel
theorem dX2_addBaker_1 : decode cX2_addBaker 1 = .ok (.istore 5, 2) := by decide +kernel
theorem dX2_addBaker_3 : decode cX2_addBaker 3 = .ok (.iload 5, 2) := by decide +kernel
theorem dX2_addBaker_5 : decode cX2_addBaker 5 = .ok (.aload_n 0, 1) := by decide +kernel
theorem dX2_addBaker_6 : decode cX2_addBaker 6 = .ok (.getfield 23, 3) := by decide +kernel
theorem dX2_addBaker_9 : decode cX2_addBaker 9 = .ok (.arraylength, 1) := by decide +kernel
theorem dX2_addBaker_10 : decode cX2_addBaker 10 = .ok (.if_icmp .ge 41, 3) := by decide +kernel
theorem dX2_addBaker_13 : decode cX2_addBaker 13 = .ok (.aload_n 0, 1) := by decide +kernel
theorem dX2_addBaker_14 : decode cX2_addBaker 14 = .ok (.getfield 23, 3) := by decide +kernel
theorem dX2_addBaker_17 : decode cX2_addBaker 17 = .ok (.iload 5, 2) := by decide +kernel
theorem dX2_addBaker_19 : decode cX2_addBaker 19 = .ok (.aaload, 1) := by decide +kernel
theorem dX2_addBaker_20 : decode cX2_addBaker 20 = .ok (.ifnonnull 25, 3) := by decide +kernel
theorem dX2_addBaker_23 : decode cX2_addBaker 23 = .ok (.aload_n 0, 1) := by decide +kernel
theorem dX2_addBaker_24 : decode cX2_addBaker 24 = .ok (.getfield 23, 3) := by decide +kernel
theorem dX2_addBaker_27 : decode cX2_addBaker 27 = .ok (.iload 5, 2) := by decide +kernel
theorem dX2_addBaker_29 : decode cX2_addBaker 29 = .ok (.new 21, 3) := by decide +kernel
theorem dX2_addBaker_32 : decode cX2_addBaker 32 = .ok (.dup, 1) := by decide +kernel
theorem dX2_addBaker_33 : decode cX2_addBaker 33 = .ok (.iload_n 1, 1) := by decide +kernel
theorem dX2_addBaker_34 : decode cX2_addBaker 34 = .ok (.iload_n 2, 1) := by decide +kernel
theorem dX2_addBaker_35 : decode cX2_addBaker 35 = .ok (.iload_n 3, 1) := by decide +kernel
theorem dX2_addBaker_36 : decode cX2_addBaker 36 = .ok (.iload 4, 2) := by decide +kernel
theorem dX2_addBaker_38 : decode cX2_addBaker 38 = .ok (.invokespecial 72, 3) := by decide +kernel
theorem dX2_addBaker_41 : decode cX2_addBaker 41 = .ok (.aastore, 1) := by decide +kernel
theorem dX2_addBaker_42 : decode cX2_addBaker 42 = .ok (.iload 5, 2) := by decide +kernel
theorem dX2_addBaker_44 : decode cX2_addBaker 44 = .ok (.ireturn, 1) := by decide +kernel
theorem dX2_addBaker_45 : decode cX2_addBaker 45 = .ok (.iinc 5 1, 3) := by decide +kernel
theorem dX2_addBaker_48 : decode cX2_addBaker 48 = .ok (.goto (-45), 3) := by decide +kernel
theorem dX2_addBaker_51 : decode cX2_addBaker 51 = .ok (.iconst (-1), 1) := by decide +kernel
theorem dX2_addBaker_52 : decode cX2_addBaker 52 = .ok (.ireturn, 1) := by decide +kernel
theorem dX2_bakerWithMark_0 : decode cX2_bakerWithMark 0 = .ok (.iconst 0, 1) := by decide +kernel
theorem dX2_bakerWithMark_1 : decode cX2_bakerWithMark 1 = .ok (.istore_n 2, 1) := by decide +kernel
theorem dX2_bakerWithMark_2 : decode cX2_bakerWithMark 2 = .ok (.iload_n 2, 1) := by decide +kernel
theorem dX2_bakerWithMark_3 : decode cX2_bakerWithMark 3 = .ok (.aload_n 0, 1) := by decide +kernel
theorem dX2_bakerWithMark_4 : decode cX2_bakerWithMark 4 = .ok (.getfield 23, 3) := by decide +kernel
theorem dX2_bakerWithMark_7 : decode cX2_bakerWithMark 7 = .ok (.arraylength, 1) := by decide +kernel
theorem dX2_bakerWithMark_8 : decode cX2_bakerWithMark 8 = .ok (.if_icmp .ge 30, 3) := by decide +kernel
theorem dX2_bakerWithMark_11 : decode cX2_bakerWithMark 11 = .ok (.aload_n 0, 1) := by decide +kernel
theorem dX2_bakerWithMark_12 : decode cX2_bakerWithMark 12 = .ok (.getfield 23, 3) := by decide +kernel
theorem dX2_bakerWithMark_15 : decode cX2_bakerWithMark 15 = .ok (.iload_n 2, 1) := by decide +kernel
theorem dX2_bakerWithMark_16 : decode cX2_bakerWithMark 16 = .ok (.aaload, 1) := by decide +kernel
theorem dX2_bakerWithMark_17 : decode cX2_bakerWithMark 17 = .ok (.astore_n 3, 1) := by decide +kernel
theorem dX2_bakerWithMark_18 : decode cX2_bakerWithMark 18 = .ok (.aload_n 3, 1) := by decide +kernel
theorem dX2_bakerWithMark_19 : decode cX2_bakerWithMark 19 = .ok (.ifnull 13, 3) := by decide +kernel
theorem dX2_bakerWithMark_22 : decode cX2_bakerWithMark 22 = .ok (.aload_n 3, 1) := by decide +kernel
theorem dX2_bakerWithMark_23 : decode cX2_bakerWithMark 23 = .ok (.getfield 78, 3) := by decide +kernel
theorem dX2_bakerWithMark_26 : decode cX2_bakerWithMark 26 = .ok (.iload_n 1, 1) := by decide +kernel
theorem dX2_bakerWithMark_27 : decode cX2_bakerWithMark 27 = .ok (.if_icmp .ne 5, 3) := by decide +kernel
theorem dX2_bakerWithMark_30 : decode cX2_bakerWithMark 30 = .ok (.iload_n 2, 1) := by decide +kernel
theorem dX2_bakerWithMark_31 : decode cX2_bakerWithMark 31 = .ok (.ireturn, 1) := by decide +kernel
theorem dX2_bakerWithMark_32 : decode cX2_bakerWithMark 32 = .ok (.iinc 2 1, 3) := by decide +kernel
theorem dX2_bakerWithMark_35 : decode cX2_bakerWithMark 35 = .ok (.goto (-33), 3) := by decide +kernel
theorem dX2_bakerWithMark_38 : decode cX2_bakerWithMark 38 = .ok (.iconst (-1), 1) := by decide +kernel
theorem dX2_bakerWithMark_39 : decode cX2_bakerWithMark 39 = .ok (.ireturn, 1) := by decide +kernel
set_option maxRecDepth 20000 in
theorem ggX2_goThrough_X2_goThroughHour : GoodIn wsX2_goThrough wsX2_goThroughHour := goodIn_r _ [5, 6, 7, 8, 9, 4, 10, 11, 12, 13, 14, 15, 16, 17, 18, 19, 20, 21, 22, 23, 24, 25, 26, 27, 28, 29, 30, 31, 32, 33, 34, 35, 36, 37, 38, 39, 40, 41, 42, 43, 44, 45, 46, 47, 48, 49, 50, 51, 52, 53, 54, 55, 56, 57, 58, 59, 60, 61, 62, 63, 64, 65, 66, 67, 68, 69, 70, 71, 72, 73, 74, 75, 76, 77, 78, 79, 80, 81, 82, 83, 84, 85, 86, 87, 88, 89, 90, 91, 92, 93, 94, 95, 96, 97, 98, 99, 100, 101, 102, 103, 104, 105, 106, 107, 108, 109, 110, 111, 112, 113, 114, 115, 116, 117, 118, 119] (by decide +kernel) (by decide +kernel)
set_option maxRecDepth 20000 in
theorem gX2_goThrough_X2_goThroughHour : GoodIn wsX2_goThrough (wsV RX2 81 RX2 yX2_goThroughHour wsX2_goThroughHour) := goodIn_app (goodIn_of _ (by decide +kernel)) ggX2_goThrough_X2_goThroughHour
theorem dX2_goThrough_0 : decode cX2_goThrough 0 = .ok (.iconst 0, 1) := by decide +kernel
theorem dX2_goThrough_1 : decode cX2_goThrough 1 = .ok (.istore_n 2, 1) := by decide +kernel
theorem dX2_goThrough_2 : decode cX2_goThrough 2 = .ok (.iconst 0, 1) := by decide +kernel
theorem dX2_goThrough_3 : decode cX2_goThrough 3 = .ok (.istore_n 3, 1) := by decide +kernel
theorem dX2_goThrough_4 : decode cX2_goThrough 4 = .ok (.iload_n 3, 1) := by decide +kernel
theorem dX2_goThrough_5 : decode cX2_goThrough 5 = .ok (.iload_n 1, 1) := by decide +kernel
theorem dX2_goThrough_6 : decode cX2_goThrough 6 = .ok (.if_icmp .ge 16, 3) := by decide +kernel
theorem dX2_goThrough_9 : decode cX2_goThrough 9 = .ok (.iload_n 2, 1) := by decide +kernel
theorem dX2_goThrough_10 : decode cX2_goThrough 10 = .ok (.aload_n 0, 1) := by decide +kernel
theorem dX2_goThrough_11 : decode cX2_goThrough 11 = .ok (.invokevirtual 81, 3) := by decide +kernel
theorem dX2_goThrough_14 : decode cX2_goThrough 14 = .ok (.iadd, 1) := by decide +kernel
theorem dX2_goThrough_15 : decode cX2_goThrough 15 = .ok (.istore_n 2, 1) := by decide +kernel
theorem dX2_goThrough_16 : decode cX2_goThrough 16 = .ok (.iinc 3 1, 3) := by decide +kernel
theorem dX2_goThrough_19 : decode cX2_goThrough 19 = .ok (.goto (-15), 3) := by decide +kernel
theorem dX2_goThrough_22 : decode cX2_goThrough 22 = .ok (.iload_n 2, 1) := by decide +kernel
theorem dX2_goThrough_23 : decode cX2_goThrough 23 = .ok (.ireturn, 1) := by decide +kernel
set_option maxRecDepth 20000 in
theorem ggX2_goThroughHour_X2_hourOfDay : GoodIn wsX2_goThroughHour wsX2_hourOfDay := goodIn_r _ [6, 1, 7, 8, 9, 10, 96, 97, 98, 99, 100, 101, 102, 103, 104] (by decide +kernel) (by decide +kernel)
set_option maxRecDepth 20000 in
theorem gX2_goThroughHour_X2_hourOfDay : GoodIn wsX2_goThroughHour (wsV RX2 85 RX2 yX2_hourOfDay wsX2_hourOfDay) := goodIn_app (goodIn_of _ (by decide +kernel)) ggX2_goThroughHour_X2_hourOfDay
set_option maxRecDepth 20000 in
theorem ggX2_goThroughHour_X2_gateAt : GoodIn wsX2_goThroughHour wsX2_gateAt := goodIn_r _ [14, 15, 96, 97, 98, 99, 100, 101, 102, 103, 104] (by decide +kernel) (by decide +kernel)
set_option maxRecDepth 20000 in
theorem gX2_goThroughHour_X2_gateAt : GoodIn wsX2_goThroughHour (wsV RX2 46 RX2 yX2_gateAt wsX2_gateAt) := goodIn_app (goodIn_of _ (by decide +kernel)) ggX2_goThroughHour_X2_gateAt
set_option maxRecDepth 20000 in
theorem ggX2_goThroughHour_X2_unloadCarts : GoodIn wsX2_goThroughHour wsX2_unloadCarts := goodIn_r _ [19, 20, 21, 22, 23, 5, 24, 25, 26, 27, 28, 29, 30, 31, 32, 33, 34, 35, 36, 96, 97, 98, 99, 100, 101, 102, 103, 104, 105, 106, 107] (by decide +kernel) (by decide +kernel)
set_option maxRecDepth 20000 in
theorem gX2_goThroughHour_X2_unloadCarts : GoodIn wsX2_goThroughHour (wsV RX2 88 RX2 yX2_unloadCarts wsX2_unloadCarts) := goodIn_app (goodIn_of _ (by decide +kernel)) ggX2_goThroughHour_X2_unloadCarts
set_option maxRecDepth 20000 in
theorem ggX2_goThroughHour_X2_dealRations : GoodIn wsX2_goThroughHour wsX2_dealRations := goodIn_r _ [40, 41, 42, 43, 44, 45, 46, 47, 48, 5, 49, 25, 50, 51, 52, 30, 53, 32, 33, 34, 35, 36, 96, 97, 98, 99, 100, 101, 102, 103, 104, 108, 109, 110, 111, 112, 113, 114, 115, 105, 106, 107] (by decide +kernel) (by decide +kernel)
set_option maxRecDepth 20000 in
theorem gX2_goThroughHour_X2_dealRations : GoodIn wsX2_goThroughHour (wsV RX2 92 RX2 yX2_dealRations wsX2_dealRations) := goodIn_app (goodIn_of _ (by decide +kernel)) ggX2_goThroughHour_X2_dealRations
set_option maxRecDepth 20000 in
theorem ggX2_goThroughHour_X2_feedAllWeevils : GoodIn wsX2_goThroughHour wsX2_feedAllWeevils := goodIn_r _ [57, 25, 58, 59, 60, 30, 61, 62, 63, 32, 33, 34, 35, 36, 64, 51, 52, 53, 96, 97, 98, 99, 100, 101, 102, 103, 104, 105, 106, 107] (by decide +kernel) (by decide +kernel)
set_option maxRecDepth 20000 in
theorem gX2_goThroughHour_X2_feedAllWeevils : GoodIn wsX2_goThroughHour (wsV RX2 95 RX2 yX2_feedAllWeevils wsX2_feedAllWeevils) := goodIn_app (goodIn_of _ (by decide +kernel)) ggX2_goThroughHour_X2_feedAllWeevils
set_option maxRecDepth 20000 in
theorem ggX2_goThroughHour_X2_bakeAll : GoodIn wsX2_goThroughHour wsX2_bakeAll := goodIn_r _ [68, 41, 69, 70, 71, 72, 73, 74, 75, 76, 77, 34, 35, 36, 78, 96, 97, 98, 99, 100, 101, 102, 103, 104, 108, 109, 110, 111, 112, 113, 114, 115] (by decide +kernel) (by decide +kernel)
set_option maxRecDepth 20000 in
theorem gX2_goThroughHour_X2_bakeAll : GoodIn wsX2_goThroughHour (wsV RX2 98 RX2 yX2_bakeAll wsX2_bakeAll) := goodIn_app (goodIn_of _ (by decide +kernel)) ggX2_goThroughHour_X2_bakeAll
set_option maxRecDepth 20000 in
theorem ggX2_goThroughHour_X2_sellAtNoon : GoodIn wsX2_goThroughHour wsX2_sellAtNoon := goodIn_r _ [82, 83, 41, 84, 85, 86, 87, 88, 89, 72, 90, 78, 77, 34, 35, 36, 91, 92, 93, 94, 95, 75, 96, 97, 98, 99, 100, 101, 102, 103, 104, 108, 109, 110, 111, 112, 113, 114, 115] (by decide +kernel) (by decide +kernel)
set_option maxRecDepth 20000 in
theorem gX2_goThroughHour_X2_sellAtNoon : GoodIn wsX2_goThroughHour (wsV RX2 101 RX2 yX2_sellAtNoon wsX2_sellAtNoon) := goodIn_app (goodIn_of _ (by decide +kernel)) ggX2_goThroughHour_X2_sellAtNoon
theorem dX2_goThroughHour_0 : decode cX2_goThroughHour 0 = .ok (.aload_n 0, 1) := by decide +kernel
theorem dX2_goThroughHour_1 : decode cX2_goThroughHour 1 = .ok (.invokevirtual 85, 3) := by decide +kernel
theorem dX2_goThroughHour_4 : decode cX2_goThroughHour 4 = .ok (.istore_n 1, 1) := by decide +kernel
theorem dX2_goThroughHour_5 : decode cX2_goThroughHour 5 = .ok (.aload_n 0, 1) := by decide +kernel
theorem dX2_goThroughHour_6 : decode cX2_goThroughHour 6 = .ok (.aload_n 0, 1) := by decide +kernel
theorem dX2_goThroughHour_7 : decode cX2_goThroughHour 7 = .ok (.iload_n 1, 1) := by decide +kernel
theorem dX2_goThroughHour_8 : decode cX2_goThroughHour 8 = .ok (.invokevirtual 46, 3) := by decide +kernel
theorem dX2_goThroughHour_11 : decode cX2_goThroughHour 11 = .ok (.invokevirtual 88, 3) := by decide +kernel
theorem dX2_goThroughHour_14 : decode cX2_goThroughHour 14 = .ok (.iload_n 1, 1) := by decide +kernel
theorem dX2_goThroughHour_15 : decode cX2_goThroughHour 15 = .ok (.ifCond .ne 11, 3) := by decide +kernel
theorem dX2_goThroughHour_18 : decode cX2_goThroughHour 18 = .ok (.aload_n 0, 1) := by decide +kernel
theorem dX2_goThroughHour_19 : decode cX2_goThroughHour 19 = .ok (.invokevirtual 92, 3) := by decide +kernel
theorem dX2_goThroughHour_22 : decode cX2_goThroughHour 22 = .ok (.aload_n 0, 1) := by decide +kernel
theorem dX2_goThroughHour_23 : decode cX2_goThroughHour 23 = .ok (.invokevirtual 95, 3) := by decide +kernel
theorem dX2_goThroughHour_26 : decode cX2_goThroughHour 26 = .ok (.aload_n 0, 1) := by decide +kernel
theorem dX2_goThroughHour_27 : decode cX2_goThroughHour 27 = .ok (.invokevirtual 98, 3) := by decide +kernel
theorem dX2_goThroughHour_30 : decode cX2_goThroughHour 30 = .ok (.iload_n 1, 1) := by decide +kernel
theorem dX2_goThroughHour_31 : decode cX2_goThroughHour 31 = .ok (.bipush 12, 2) := by decide +kernel
theorem dX2_goThroughHour_33 : decode cX2_goThroughHour 33 = .ok (.if_icmp .ne 10, 3) := by decide +kernel
theorem dX2_goThroughHour_36 : decode cX2_goThroughHour 36 = .ok (.aload_n 0, 1) := by decide +kernel
theorem dX2_goThroughHour_37 : decode cX2_goThroughHour 37 = .ok (.invokevirtual 101, 3) := by decide +kernel
theorem dX2_goThroughHour_40 : decode cX2_goThroughHour 40 = .ok (.goto 4, 3) := by decide +kernel
theorem dX2_goThroughHour_43 : decode cX2_goThroughHour 43 = .ok (.iconst 0, 1) := by decide +kernel
theorem dX2_goThroughHour_44 : decode cX2_goThroughHour 44 = .ok (.istore_n 2, 1) := by decide +kernel
theorem dX2_goThroughHour_45 : decode cX2_goThroughHour 45 = .ok (.aload_n 0, 1) := by decide +kernel
theorem dX2_goThroughHour_46 : decode cX2_goThroughHour 46 = .ok (.dup, 1) := by decide +kernel
theorem dX2_goThroughHour_47 : decode cX2_goThroughHour 47 = .ok (.getfield 31, 3) := by decide +kernel
theorem dX2_goThroughHour_50 : decode cX2_goThroughHour 50 = .ok (.iconst 1, 1) := by decide +kernel
theorem dX2_goThroughHour_51 : decode cX2_goThroughHour 51 = .ok (.iadd, 1) := by decide +kernel
theorem dX2_goThroughHour_52 : decode cX2_goThroughHour 52 = .ok (.putfield 31, 3) := by decide +kernel
theorem dX2_goThroughHour_55 : decode cX2_goThroughHour 55 = .ok (.iload_n 2, 1) := by decide +kernel
theorem dX2_goThroughHour_56 : decode cX2_goThroughHour 56 = .ok (.ireturn, 1) := by decide +kernel
set_option maxRecDepth 20000 in
theorem ggX2_hourOfDay_J9_floorMod_7cf53 : GoodIn wsX2_hourOfDay wsJ9_floorMod_7cf53 := goodIn_r _ [5] (by decide +kernel) (by decide +kernel)
set_option maxRecDepth 20000 in
theorem gX2_hourOfDay_J9_floorMod_7cf53 : GoodIn wsX2_hourOfDay (va_wsS RX2 104 yJ9_floorMod_7cf53 wsJ9_floorMod_7cf53) := goodIn_app (goodIn_of _ (by decide +kernel)) ggX2_hourOfDay_J9_floorMod_7cf53
theorem dX2_hourOfDay_0 : decode cX2_hourOfDay 0 = .ok (.aload_n 0, 1) := by decide +kernel
theorem dX2_hourOfDay_1 : decode cX2_hourOfDay 1 = .ok (.getfield 31, 3) := by decide +kernel
theorem dX2_hourOfDay_4 : decode cX2_hourOfDay 4 = .ok (.bipush 24, 2) := by decide +kernel
theorem dX2_hourOfDay_6 : decode cX2_hourOfDay 6 = .ok (.invokestatic 104, 3) := by decide +kernel
theorem dX2_hourOfDay_9 : decode cX2_hourOfDay 9 = .ok (.ireturn, 1) := by decide +kernel
set_option maxRecDepth 20000 in
theorem ggX2_unloadCarts_X2_emptiestStore : GoodIn wsX2_unloadCarts wsX2_emptiestStore := goodIn_r _ [6, 7, 8, 19, 20, 21, 22, 23, 24, 25, 26, 27, 28, 29, 30] (by decide +kernel) (by decide +kernel)
set_option maxRecDepth 20000 in
theorem gX2_unloadCarts_X2_emptiestStore : GoodIn wsX2_unloadCarts (wsV RX2 110 RX2 yX2_emptiestStore wsX2_emptiestStore) := goodIn_app (goodIn_of _ (by decide +kernel)) ggX2_unloadCarts_X2_emptiestStore
set_option maxRecDepth 20000 in
theorem ggX2_unloadCarts_X1_takeIn : GoodIn wsX2_unloadCarts wsX1_takeIn := goodIn_r _ [13, 14, 15, 16, 17, 18, 28, 29, 30] (by decide +kernel) (by decide +kernel)
set_option maxRecDepth 20000 in
theorem gX2_unloadCarts_X1_takeIn : GoodIn wsX2_unloadCarts (wsV RX2 114 RX1 yX1_takeIn wsX1_takeIn) := goodIn_app (goodIn_of _ (by decide +kernel)) ggX2_unloadCarts_X1_takeIn
theorem dX2_unloadCarts_0 : decode cX2_unloadCarts 0 = .ok (.aload_n 0, 1) := by decide +kernel
theorem dX2_unloadCarts_1 : decode cX2_unloadCarts 1 = .ok (.invokevirtual 110, 3) := by decide +kernel
theorem dX2_unloadCarts_4 : decode cX2_unloadCarts 4 = .ok (.astore_n 2, 1) := by decide +kernel
theorem dX2_unloadCarts_5 : decode cX2_unloadCarts 5 = .ok (.aload_n 2, 1) := by decide +kernel
theorem dX2_unloadCarts_6 : decode cX2_unloadCarts 6 = .ok (.ifnull 17, 3) := by decide +kernel
theorem dX2_unloadCarts_9 : decode cX2_unloadCarts 9 = .ok (.aload_n 0, 1) := by decide +kernel
theorem dX2_unloadCarts_10 : decode cX2_unloadCarts 10 = .ok (.dup, 1) := by decide +kernel
theorem dX2_unloadCarts_11 : decode cX2_unloadCarts 11 = .ok (.getfield 43, 3) := by decide +kernel
theorem dX2_unloadCarts_14 : decode cX2_unloadCarts 14 = .ok (.aload_n 2, 1) := by decide +kernel
theorem dX2_unloadCarts_15 : decode cX2_unloadCarts 15 = .ok (.iload_n 1, 1) := by decide +kernel
theorem dX2_unloadCarts_16 : decode cX2_unloadCarts 16 = .ok (.invokevirtual 114, 3) := by decide +kernel
theorem dX2_unloadCarts_19 : decode cX2_unloadCarts 19 = .ok (.iadd, 1) := by decide +kernel
theorem dX2_unloadCarts_20 : decode cX2_unloadCarts 20 = .ok (.putfield 43, 3) := by decide +kernel
theorem dX2_unloadCarts_23 : decode cX2_unloadCarts 23 = .ok (.return_, 1) := by decide +kernel
theorem dX2_emptiestStore_0 : decode cX2_emptiestStore 0 = .ok (.aconst_null, 1) := by decide +kernel
theorem dX2_emptiestStore_1 : decode cX2_emptiestStore 1 = .ok (.astore_n 1, 1) := by decide +kernel
theorem dX2_emptiestStore_2 : decode cX2_emptiestStore 2 = .ok (.aload_n 0, 1) := by decide +kernel
theorem dX2_emptiestStore_3 : decode cX2_emptiestStore 3 = .ok (.getfield 17, 3) := by decide +kernel
theorem dX2_emptiestStore_6 : decode cX2_emptiestStore 6 = .ok (.astore_n 2, 1) := by decide +kernel
theorem dX2_emptiestStore_7 : decode cX2_emptiestStore 7 = .ok (.aload_n 2, 1) := by decide +kernel
theorem dX2_emptiestStore_8 : decode cX2_emptiestStore 8 = .ok (.arraylength, 1) := by decide +kernel
theorem dX2_emptiestStore_9 : decode cX2_emptiestStore 9 = .ok (.istore_n 3, 1) := by decide +kernel
theorem dX2_emptiestStore_10 : decode cX2_emptiestStore 10 = .ok (.iconst 0, 1) := by decide +kernel
theorem dX2_emptiestStore_11 : decode cX2_emptiestStore 11 = .ok (.istore 4, 2) := by decide +kernel
theorem dX2_emptiestStore_13 : decode cX2_emptiestStore 13 = .ok (.iload 4, 2) := by decide +kernel
theorem dX2_emptiestStore_15 : decode cX2_emptiestStore 15 = .ok (.iload_n 3, 1) := by decide +kernel
theorem dX2_emptiestStore_16 : decode cX2_emptiestStore 16 = .ok (.if_icmp .ge 39, 3) := by decide +kernel
theorem dX2_emptiestStore_19 : decode cX2_emptiestStore 19 = .ok (.aload_n 2, 1) := by decide +kernel
theorem dX2_emptiestStore_20 : decode cX2_emptiestStore 20 = .ok (.iload 4, 2) := by decide +kernel
theorem dX2_emptiestStore_22 : decode cX2_emptiestStore 22 = .ok (.aaload, 1) := by decide +kernel
theorem dX2_emptiestStore_23 : decode cX2_emptiestStore 23 = .ok (.astore 5, 2) := by decide +kernel
theorem dX2_emptiestStore_25 : decode cX2_emptiestStore 25 = .ok (.aload 5, 2) := by decide +kernel
theorem dX2_emptiestStore_27 : decode cX2_emptiestStore 27 = .ok (.ifnull 22, 3) := by decide +kernel
theorem dX2_emptiestStore_30 : decode cX2_emptiestStore 30 = .ok (.aload_n 1, 1) := by decide +kernel
theorem dX2_emptiestStore_31 : decode cX2_emptiestStore 31 = .ok (.ifnull 15, 3) := by decide +kernel
theorem dX2_emptiestStore_34 : decode cX2_emptiestStore 34 = .ok (.aload 5, 2) := by decide +kernel
theorem dX2_emptiestStore_36 : decode cX2_emptiestStore 36 = .ok (.getfield 117, 3) := by decide +kernel
theorem dX2_emptiestStore_39 : decode cX2_emptiestStore 39 = .ok (.aload_n 1, 1) := by decide +kernel
theorem dX2_emptiestStore_40 : decode cX2_emptiestStore 40 = .ok (.getfield 117, 3) := by decide +kernel
theorem dX2_emptiestStore_43 : decode cX2_emptiestStore 43 = .ok (.if_icmp .ge 6, 3) := by decide +kernel
theorem dX2_emptiestStore_46 : decode cX2_emptiestStore 46 = .ok (.aload 5, 2) := by decide +kernel
theorem dX2_emptiestStore_48 : decode cX2_emptiestStore 48 = .ok (.astore_n 1, 1) := by decide +kernel
theorem dX2_emptiestStore_49 : decode cX2_emptiestStore 49 = .ok (.iinc 4 1, 3) := by decide +kernel
theorem dX2_emptiestStore_52 : decode cX2_emptiestStore 52 = .ok (.goto (-39), 3) := by decide +kernel
theorem dX2_emptiestStore_55 : decode cX2_emptiestStore 55 = .ok (.aload_n 1, 1) := by decide +kernel
theorem dX2_emptiestStore_56 : decode cX2_emptiestStore 56 = .ok (.areturn, 1) := by decide +kernel
set_option maxRecDepth 20000 in
theorem ggX2_dealRations_X2_storeAt : GoodIn wsX2_dealRations wsX2_storeAt := goodIn_r _ [10, 11, 22, 23, 24, 25, 26, 27, 28, 29, 30] (by decide +kernel) (by decide +kernel)
set_option maxRecDepth 20000 in
theorem gX2_dealRations_X2_storeAt : GoodIn wsX2_dealRations (wsV RX2 57 RX2 yX2_storeAt wsX2_storeAt) := goodIn_app (goodIn_of _ (by decide +kernel)) ggX2_dealRations_X2_storeAt
set_option maxRecDepth 20000 in
theorem ggX2_dealRations_X1_giveOut : GoodIn wsX2_dealRations wsX1_giveOut := goodIn_r _ [16, 17, 18, 19, 20, 21, 39, 40, 41] (by decide +kernel) (by decide +kernel)
set_option maxRecDepth 20000 in
theorem gX2_dealRations_X1_giveOut : GoodIn wsX2_dealRations (wsV RX2 133 RX1 yX1_giveOut wsX1_giveOut) := goodIn_app (goodIn_of _ (by decide +kernel)) ggX2_dealRations_X1_giveOut
theorem dX2_dealRations_0 : decode cX2_dealRations 0 = .ok (.aload_n 0, 1) := by decide +kernel
theorem dX2_dealRations_1 : decode cX2_dealRations 1 = .ok (.getfield 23, 3) := by decide +kernel
theorem dX2_dealRations_4 : decode cX2_dealRations 4 = .ok (.astore_n 1, 1) := by decide +kernel
theorem dX2_dealRations_5 : decode cX2_dealRations 5 = .ok (.aload_n 1, 1) := by decide +kernel
theorem dX2_dealRations_6 : decode cX2_dealRations 6 = .ok (.arraylength, 1) := by decide +kernel
theorem dX2_dealRations_7 : decode cX2_dealRations 7 = .ok (.istore_n 2, 1) := by decide +kernel
theorem dX2_dealRations_8 : decode cX2_dealRations 8 = .ok (.iconst 0, 1) := by decide +kernel
theorem dX2_dealRations_9 : decode cX2_dealRations 9 = .ok (.istore_n 3, 1) := by decide +kernel
theorem dX2_dealRations_10 : decode cX2_dealRations 10 = .ok (.iload_n 3, 1) := by decide +kernel
theorem dX2_dealRations_11 : decode cX2_dealRations 11 = .ok (.iload_n 2, 1) := by decide +kernel
theorem dX2_dealRations_12 : decode cX2_dealRations 12 = .ok (.if_icmp .ge 63, 3) := by decide +kernel
theorem dX2_dealRations_15 : decode cX2_dealRations 15 = .ok (.aload_n 1, 1) := by decide +kernel
theorem dX2_dealRations_16 : decode cX2_dealRations 16 = .ok (.iload_n 3, 1) := by decide +kernel
theorem dX2_dealRations_17 : decode cX2_dealRations 17 = .ok (.aaload, 1) := by decide +kernel
theorem dX2_dealRations_18 : decode cX2_dealRations 18 = .ok (.astore 4, 2) := by decide +kernel
theorem dX2_dealRations_20 : decode cX2_dealRations 20 = .ok (.aload 4, 2) := by decide +kernel
theorem dX2_dealRations_22 : decode cX2_dealRations 22 = .ok (.ifnull 47, 3) := by decide +kernel
theorem dX2_dealRations_25 : decode cX2_dealRations 25 = .ok (.aload 4, 2) := by decide +kernel
theorem dX2_dealRations_27 : decode cX2_dealRations 27 = .ok (.getfield 120, 3) := by decide +kernel
theorem dX2_dealRations_30 : decode cX2_dealRations 30 = .ok (.ifCond .ne 39, 3) := by decide +kernel
theorem dX2_dealRations_33 : decode cX2_dealRations 33 = .ok (.aload_n 0, 1) := by decide +kernel
theorem dX2_dealRations_34 : decode cX2_dealRations 34 = .ok (.aload 4, 2) := by decide +kernel
theorem dX2_dealRations_36 : decode cX2_dealRations 36 = .ok (.getfield 124, 3) := by decide +kernel
theorem dX2_dealRations_39 : decode cX2_dealRations 39 = .ok (.invokevirtual 57, 3) := by decide +kernel
theorem dX2_dealRations_42 : decode cX2_dealRations 42 = .ok (.astore 5, 2) := by decide +kernel
theorem dX2_dealRations_44 : decode cX2_dealRations 44 = .ok (.aload 5, 2) := by decide +kernel
theorem dX2_dealRations_46 : decode cX2_dealRations 46 = .ok (.ifnull 23, 3) := by decide +kernel
theorem dX2_dealRations_49 : decode cX2_dealRations 49 = .ok (.aload 4, 2) := by decide +kernel
theorem dX2_dealRations_51 : decode cX2_dealRations 51 = .ok (.dup, 1) := by decide +kernel
theorem dX2_dealRations_52 : decode cX2_dealRations 52 = .ok (.getfield 127, 3) := by decide +kernel
theorem dX2_dealRations_55 : decode cX2_dealRations 55 = .ok (.aload 5, 2) := by decide +kernel
theorem dX2_dealRations_57 : decode cX2_dealRations 57 = .ok (.aload 4, 2) := by decide +kernel
theorem dX2_dealRations_59 : decode cX2_dealRations 59 = .ok (.getfield 130, 3) := by decide +kernel
theorem dX2_dealRations_62 : decode cX2_dealRations 62 = .ok (.invokevirtual 133, 3) := by decide +kernel
theorem dX2_dealRations_65 : decode cX2_dealRations 65 = .ok (.iadd, 1) := by decide +kernel
theorem dX2_dealRations_66 : decode cX2_dealRations 66 = .ok (.putfield 127, 3) := by decide +kernel
theorem dX2_dealRations_69 : decode cX2_dealRations 69 = .ok (.iinc 3 1, 3) := by decide +kernel
theorem dX2_dealRations_72 : decode cX2_dealRations 72 = .ok (.goto (-62), 3) := by decide +kernel
theorem dX2_dealRations_75 : decode cX2_dealRations 75 = .ok (.return_, 1) := by decide +kernel
set_option maxRecDepth 20000 in
theorem ggX2_feedAllWeevils_X1_feedWeevils : GoodIn wsX2_feedAllWeevils wsX1_feedWeevils := goodIn_r _ [6, 7, 8, 9, 10, 11, 12, 13, 14, 15, 16, 5, 17, 27, 28, 29] (by decide +kernel) (by decide +kernel)
set_option maxRecDepth 20000 in
theorem gX2_feedAllWeevils_X1_feedWeevils : GoodIn wsX2_feedAllWeevils (wsV RX2 136 RX1 yX1_feedWeevils wsX1_feedWeevils) := goodIn_app (goodIn_of _ (by decide +kernel)) ggX2_feedAllWeevils_X1_feedWeevils
theorem dX2_feedAllWeevils_0 : decode cX2_feedAllWeevils 0 = .ok (.aload_n 0, 1) := by decide +kernel
theorem dX2_feedAllWeevils_1 : decode cX2_feedAllWeevils 1 = .ok (.getfield 17, 3) := by decide +kernel
theorem dX2_feedAllWeevils_4 : decode cX2_feedAllWeevils 4 = .ok (.astore_n 1, 1) := by decide +kernel
theorem dX2_feedAllWeevils_5 : decode cX2_feedAllWeevils 5 = .ok (.aload_n 1, 1) := by decide +kernel
theorem dX2_feedAllWeevils_6 : decode cX2_feedAllWeevils 6 = .ok (.arraylength, 1) := by decide +kernel
theorem dX2_feedAllWeevils_7 : decode cX2_feedAllWeevils 7 = .ok (.istore_n 2, 1) := by decide +kernel
theorem dX2_feedAllWeevils_8 : decode cX2_feedAllWeevils 8 = .ok (.iconst 0, 1) := by decide +kernel
theorem dX2_feedAllWeevils_9 : decode cX2_feedAllWeevils 9 = .ok (.istore_n 3, 1) := by decide +kernel
theorem dX2_feedAllWeevils_10 : decode cX2_feedAllWeevils 10 = .ok (.iload_n 3, 1) := by decide +kernel
theorem dX2_feedAllWeevils_11 : decode cX2_feedAllWeevils 11 = .ok (.iload_n 2, 1) := by decide +kernel
theorem dX2_feedAllWeevils_12 : decode cX2_feedAllWeevils 12 = .ok (.if_icmp .ge 24, 3) := by decide +kernel
theorem dX2_feedAllWeevils_15 : decode cX2_feedAllWeevils 15 = .ok (.aload_n 1, 1) := by decide +kernel
theorem dX2_feedAllWeevils_16 : decode cX2_feedAllWeevils 16 = .ok (.iload_n 3, 1) := by decide +kernel
theorem dX2_feedAllWeevils_17 : decode cX2_feedAllWeevils 17 = .ok (.aaload, 1) := by decide +kernel
theorem dX2_feedAllWeevils_18 : decode cX2_feedAllWeevils 18 = .ok (.astore 4, 2) := by decide +kernel
theorem dX2_feedAllWeevils_20 : decode cX2_feedAllWeevils 20 = .ok (.aload 4, 2) := by decide +kernel
theorem dX2_feedAllWeevils_22 : decode cX2_feedAllWeevils 22 = .ok (.ifnull 8, 3) := by decide +kernel
theorem dX2_feedAllWeevils_25 : decode cX2_feedAllWeevils 25 = .ok (.aload 4, 2) := by decide +kernel
theorem dX2_feedAllWeevils_27 : decode cX2_feedAllWeevils 27 = .ok (.invokevirtual 136, 3) := by decide +kernel
theorem dX2_feedAllWeevils_30 : decode cX2_feedAllWeevils 30 = .ok (.iinc 3 1, 3) := by decide +kernel
theorem dX2_feedAllWeevils_33 : decode cX2_feedAllWeevils 33 = .ok (.goto (-23), 3) := by decide +kernel
theorem dX2_feedAllWeevils_36 : decode cX2_feedAllWeevils 36 = .ok (.return_, 1) := by decide +kernel
set_option maxRecDepth 20000 in
theorem ggX2_bakeAll_X0_bake : GoodIn wsX2_bakeAll wsX0_bake := goodIn_r _ [6, 7, 8, 9, 10, 11, 12, 13, 14, 24, 25, 26, 27, 28, 29, 30, 31] (by decide +kernel) (by decide +kernel)
set_option maxRecDepth 20000 in
theorem gX2_bakeAll_X0_bake : GoodIn wsX2_bakeAll (wsV RX2 139 RX0 yX0_bake wsX0_bake) := goodIn_app (goodIn_of _ (by decide +kernel)) ggX2_bakeAll_X0_bake
theorem dX2_bakeAll_0 : decode cX2_bakeAll 0 = .ok (.aload_n 0, 1) := by decide +kernel
theorem dX2_bakeAll_1 : decode cX2_bakeAll 1 = .ok (.getfield 23, 3) := by decide +kernel
theorem dX2_bakeAll_4 : decode cX2_bakeAll 4 = .ok (.astore_n 1, 1) := by decide +kernel
theorem dX2_bakeAll_5 : decode cX2_bakeAll 5 = .ok (.aload_n 1, 1) := by decide +kernel
theorem dX2_bakeAll_6 : decode cX2_bakeAll 6 = .ok (.arraylength, 1) := by decide +kernel
theorem dX2_bakeAll_7 : decode cX2_bakeAll 7 = .ok (.istore_n 2, 1) := by decide +kernel
theorem dX2_bakeAll_8 : decode cX2_bakeAll 8 = .ok (.iconst 0, 1) := by decide +kernel
theorem dX2_bakeAll_9 : decode cX2_bakeAll 9 = .ok (.istore_n 3, 1) := by decide +kernel
theorem dX2_bakeAll_10 : decode cX2_bakeAll 10 = .ok (.iload_n 3, 1) := by decide +kernel
theorem dX2_bakeAll_11 : decode cX2_bakeAll 11 = .ok (.iload_n 2, 1) := by decide +kernel
theorem dX2_bakeAll_12 : decode cX2_bakeAll 12 = .ok (.if_icmp .ge 24, 3) := by decide +kernel
theorem dX2_bakeAll_15 : decode cX2_bakeAll 15 = .ok (.aload_n 1, 1) := by decide +kernel
theorem dX2_bakeAll_16 : decode cX2_bakeAll 16 = .ok (.iload_n 3, 1) := by decide +kernel
theorem dX2_bakeAll_17 : decode cX2_bakeAll 17 = .ok (.aaload, 1) := by decide +kernel
theorem dX2_bakeAll_18 : decode cX2_bakeAll 18 = .ok (.astore 4, 2) := by decide +kernel
theorem dX2_bakeAll_20 : decode cX2_bakeAll 20 = .ok (.aload 4, 2) := by decide +kernel
theorem dX2_bakeAll_22 : decode cX2_bakeAll 22 = .ok (.ifnull 8, 3) := by decide +kernel
theorem dX2_bakeAll_25 : decode cX2_bakeAll 25 = .ok (.aload 4, 2) := by decide +kernel
theorem dX2_bakeAll_27 : decode cX2_bakeAll 27 = .ok (.invokevirtual 139, 3) := by decide +kernel
theorem dX2_bakeAll_30 : decode cX2_bakeAll 30 = .ok (.iinc 3 1, 3) := by decide +kernel
theorem dX2_bakeAll_33 : decode cX2_bakeAll 33 = .ok (.goto (-23), 3) := by decide +kernel
theorem dX2_bakeAll_36 : decode cX2_bakeAll 36 = .ok (.return_, 1) := by decide +kernel
set_option maxRecDepth 20000 in
theorem ggX2_sellAtNoon_X0_sell : GoodIn wsX2_sellAtNoon wsX0_sell := goodIn_r _ [10, 11, 12, 13, 14, 15, 16, 31, 32, 33, 34, 35, 36, 37, 38] (by decide +kernel) (by decide +kernel)
set_option maxRecDepth 20000 in
theorem gX2_sellAtNoon_X0_sell : GoodIn wsX2_sellAtNoon (wsV RX2 142 RX0 yX0_sell wsX0_sell) := goodIn_app (goodIn_of _ (by decide +kernel)) ggX2_sellAtNoon_X0_sell
set_option maxRecDepth 20000 in
theorem ggX2_sellAtNoon_X0_bakesLight : GoodIn wsX2_sellAtNoon wsX0_bakesLight := goodIn_r _ [20, 21, 31, 32, 33, 34, 35, 36, 37, 38] (by decide +kernel) (by decide +kernel)
set_option maxRecDepth 20000 in
theorem gX2_sellAtNoon_X0_bakesLight : GoodIn wsX2_sellAtNoon (wsV RX2 145 RX0 yX0_bakesLight wsX0_bakesLight) := goodIn_app (goodIn_of _ (by decide +kernel)) ggX2_sellAtNoon_X0_bakesLight
theorem dX2_sellAtNoon_0 : decode cX2_sellAtNoon 0 = .ok (.aload_n 0, 1) := by decide +kernel
theorem dX2_sellAtNoon_1 : decode cX2_sellAtNoon 1 = .ok (.getfield 27, 3) := by decide +kernel
theorem dX2_sellAtNoon_4 : decode cX2_sellAtNoon 4 = .ok (.istore_n 1, 1) := by decide +kernel
theorem dX2_sellAtNoon_5 : decode cX2_sellAtNoon 5 = .ok (.aload_n 0, 1) := by decide +kernel
theorem dX2_sellAtNoon_6 : decode cX2_sellAtNoon 6 = .ok (.getfield 23, 3) := by decide +kernel
theorem dX2_sellAtNoon_9 : decode cX2_sellAtNoon 9 = .ok (.astore_n 2, 1) := by decide +kernel
theorem dX2_sellAtNoon_10 : decode cX2_sellAtNoon 10 = .ok (.aload_n 2, 1) := by decide +kernel
theorem dX2_sellAtNoon_11 : decode cX2_sellAtNoon 11 = .ok (.arraylength, 1) := by decide +kernel
theorem dX2_sellAtNoon_12 : decode cX2_sellAtNoon 12 = .ok (.istore_n 3, 1) := by decide +kernel
theorem dX2_sellAtNoon_13 : decode cX2_sellAtNoon 13 = .ok (.iconst 0, 1) := by decide +kernel
theorem dX2_sellAtNoon_14 : decode cX2_sellAtNoon 14 = .ok (.istore 4, 2) := by decide +kernel
theorem dX2_sellAtNoon_16 : decode cX2_sellAtNoon 16 = .ok (.iload 4, 2) := by decide +kernel
theorem dX2_sellAtNoon_18 : decode cX2_sellAtNoon 18 = .ok (.iload_n 3, 1) := by decide +kernel
theorem dX2_sellAtNoon_19 : decode cX2_sellAtNoon 19 = .ok (.if_icmp .ge 63, 3) := by decide +kernel
theorem dX2_sellAtNoon_22 : decode cX2_sellAtNoon 22 = .ok (.aload_n 2, 1) := by decide +kernel
theorem dX2_sellAtNoon_23 : decode cX2_sellAtNoon 23 = .ok (.iload 4, 2) := by decide +kernel
theorem dX2_sellAtNoon_25 : decode cX2_sellAtNoon 25 = .ok (.aaload, 1) := by decide +kernel
theorem dX2_sellAtNoon_26 : decode cX2_sellAtNoon 26 = .ok (.astore 5, 2) := by decide +kernel
theorem dX2_sellAtNoon_28 : decode cX2_sellAtNoon 28 = .ok (.aload 5, 2) := by decide +kernel
theorem dX2_sellAtNoon_30 : decode cX2_sellAtNoon 30 = .ok (.ifnull 46, 3) := by decide +kernel
theorem dX2_sellAtNoon_33 : decode cX2_sellAtNoon 33 = .ok (.aload 5, 2) := by decide +kernel
theorem dX2_sellAtNoon_35 : decode cX2_sellAtNoon 35 = .ok (.iload_n 1, 1) := by decide +kernel
theorem dX2_sellAtNoon_36 : decode cX2_sellAtNoon 36 = .ok (.invokevirtual 142, 3) := by decide +kernel
theorem dX2_sellAtNoon_39 : decode cX2_sellAtNoon 39 = .ok (.istore 6, 2) := by decide +kernel
theorem dX2_sellAtNoon_41 : decode cX2_sellAtNoon 41 = .ok (.iload_n 1, 1) := by decide +kernel
theorem dX2_sellAtNoon_42 : decode cX2_sellAtNoon 42 = .ok (.iload 6, 2) := by decide +kernel
theorem dX2_sellAtNoon_44 : decode cX2_sellAtNoon 44 = .ok (.isub, 1) := by decide +kernel
theorem dX2_sellAtNoon_45 : decode cX2_sellAtNoon 45 = .ok (.istore_n 1, 1) := by decide +kernel
theorem dX2_sellAtNoon_46 : decode cX2_sellAtNoon 46 = .ok (.aload_n 0, 1) := by decide +kernel
theorem dX2_sellAtNoon_47 : decode cX2_sellAtNoon 47 = .ok (.dup, 1) := by decide +kernel
theorem dX2_sellAtNoon_48 : decode cX2_sellAtNoon 48 = .ok (.getfield 34, 3) := by decide +kernel
theorem dX2_sellAtNoon_51 : decode cX2_sellAtNoon 51 = .ok (.iload 6, 2) := by decide +kernel
theorem dX2_sellAtNoon_53 : decode cX2_sellAtNoon 53 = .ok (.iadd, 1) := by decide +kernel
theorem dX2_sellAtNoon_54 : decode cX2_sellAtNoon 54 = .ok (.putfield 34, 3) := by decide +kernel
theorem dX2_sellAtNoon_57 : decode cX2_sellAtNoon 57 = .ok (.aload 5, 2) := by decide +kernel
theorem dX2_sellAtNoon_59 : decode cX2_sellAtNoon 59 = .ok (.invokevirtual 145, 3) := by decide +kernel
theorem dX2_sellAtNoon_62 : decode cX2_sellAtNoon 62 = .ok (.ifCond .eq 14, 3) := by decide +kernel
theorem dX2_sellAtNoon_65 : decode cX2_sellAtNoon 65 = .ok (.aload_n 0, 1) := by decide +kernel
theorem dX2_sellAtNoon_66 : decode cX2_sellAtNoon 66 = .ok (.dup, 1) := by decide +kernel
theorem dX2_sellAtNoon_67 : decode cX2_sellAtNoon 67 = .ok (.getfield 37, 3) := by decide +kernel
theorem dX2_sellAtNoon_70 : decode cX2_sellAtNoon 70 = .ok (.iload 6, 2) := by decide +kernel
theorem dX2_sellAtNoon_72 : decode cX2_sellAtNoon 72 = .ok (.iadd, 1) := by decide +kernel
theorem dX2_sellAtNoon_73 : decode cX2_sellAtNoon 73 = .ok (.putfield 37, 3) := by decide +kernel
theorem dX2_sellAtNoon_76 : decode cX2_sellAtNoon 76 = .ok (.iinc 4 1, 3) := by decide +kernel
theorem dX2_sellAtNoon_79 : decode cX2_sellAtNoon 79 = .ok (.goto (-63), 3) := by decide +kernel
theorem dX2_sellAtNoon_82 : decode cX2_sellAtNoon 82 = .ok (.aload_n 0, 1) := by decide +kernel
theorem dX2_sellAtNoon_83 : decode cX2_sellAtNoon 83 = .ok (.dup, 1) := by decide +kernel
theorem dX2_sellAtNoon_84 : decode cX2_sellAtNoon 84 = .ok (.getfield 40, 3) := by decide +kernel
theorem dX2_sellAtNoon_87 : decode cX2_sellAtNoon 87 = .ok (.iload_n 1, 1) := by decide +kernel
theorem dX2_sellAtNoon_88 : decode cX2_sellAtNoon 88 = .ok (.iadd, 1) := by decide +kernel
theorem dX2_sellAtNoon_89 : decode cX2_sellAtNoon 89 = .ok (.putfield 40, 3) := by decide +kernel
theorem dX2_sellAtNoon_92 : decode cX2_sellAtNoon 92 = .ok (.iload_n 1, 1) := by decide +kernel
theorem dX2_sellAtNoon_93 : decode cX2_sellAtNoon 93 = .ok (.ireturn, 1) := by decide +kernel
theorem dX2_flourOfAll_0 : decode cX2_flourOfAll 0 = .ok (.iconst 0, 1) := by decide +kernel
theorem dX2_flourOfAll_1 : decode cX2_flourOfAll 1 = .ok (.istore_n 1, 1) := by decide +kernel
theorem dX2_flourOfAll_2 : decode cX2_flourOfAll 2 = .ok (.aload_n 0, 1) := by decide +kernel
theorem dX2_flourOfAll_3 : decode cX2_flourOfAll 3 = .ok (.getfield 17, 3) := by decide +kernel
theorem dX2_flourOfAll_6 : decode cX2_flourOfAll 6 = .ok (.astore_n 2, 1) := by decide +kernel
theorem dX2_flourOfAll_7 : decode cX2_flourOfAll 7 = .ok (.aload_n 2, 1) := by decide +kernel
theorem dX2_flourOfAll_8 : decode cX2_flourOfAll 8 = .ok (.arraylength, 1) := by decide +kernel
theorem dX2_flourOfAll_9 : decode cX2_flourOfAll 9 = .ok (.istore_n 3, 1) := by decide +kernel
theorem dX2_flourOfAll_10 : decode cX2_flourOfAll 10 = .ok (.iconst 0, 1) := by decide +kernel
theorem dX2_flourOfAll_11 : decode cX2_flourOfAll 11 = .ok (.istore 4, 2) := by decide +kernel
theorem dX2_flourOfAll_13 : decode cX2_flourOfAll 13 = .ok (.iload 4, 2) := by decide +kernel
theorem dX2_flourOfAll_15 : decode cX2_flourOfAll 15 = .ok (.iload_n 3, 1) := by decide +kernel
theorem dX2_flourOfAll_16 : decode cX2_flourOfAll 16 = .ok (.if_icmp .ge 28, 3) := by decide +kernel
theorem dX2_flourOfAll_19 : decode cX2_flourOfAll 19 = .ok (.aload_n 2, 1) := by decide +kernel
theorem dX2_flourOfAll_20 : decode cX2_flourOfAll 20 = .ok (.iload 4, 2) := by decide +kernel
theorem dX2_flourOfAll_22 : decode cX2_flourOfAll 22 = .ok (.aaload, 1) := by decide +kernel
theorem dX2_flourOfAll_23 : decode cX2_flourOfAll 23 = .ok (.astore 5, 2) := by decide +kernel
theorem dX2_flourOfAll_25 : decode cX2_flourOfAll 25 = .ok (.aload 5, 2) := by decide +kernel
theorem dX2_flourOfAll_27 : decode cX2_flourOfAll 27 = .ok (.ifnull 11, 3) := by decide +kernel
theorem dX2_flourOfAll_30 : decode cX2_flourOfAll 30 = .ok (.iload_n 1, 1) := by decide +kernel
theorem dX2_flourOfAll_31 : decode cX2_flourOfAll 31 = .ok (.aload 5, 2) := by decide +kernel
theorem dX2_flourOfAll_33 : decode cX2_flourOfAll 33 = .ok (.getfield 117, 3) := by decide +kernel
theorem dX2_flourOfAll_36 : decode cX2_flourOfAll 36 = .ok (.iadd, 1) := by decide +kernel
theorem dX2_flourOfAll_37 : decode cX2_flourOfAll 37 = .ok (.istore_n 1, 1) := by decide +kernel
theorem dX2_flourOfAll_38 : decode cX2_flourOfAll 38 = .ok (.iinc 4 1, 3) := by decide +kernel
theorem dX2_flourOfAll_41 : decode cX2_flourOfAll 41 = .ok (.goto (-28), 3) := by decide +kernel
theorem dX2_flourOfAll_44 : decode cX2_flourOfAll 44 = .ok (.iload_n 1, 1) := by decide +kernel
theorem dX2_flourOfAll_45 : decode cX2_flourOfAll 45 = .ok (.ireturn, 1) := by decide +kernel
theorem dX2_weevilsOfAll_0 : decode cX2_weevilsOfAll 0 = .ok (.iconst 0, 1) := by decide +kernel
theorem dX2_weevilsOfAll_1 : decode cX2_weevilsOfAll 1 = .ok (.istore_n 1, 1) := by decide +kernel
theorem dX2_weevilsOfAll_2 : decode cX2_weevilsOfAll 2 = .ok (.aload_n 0, 1) := by decide +kernel
theorem dX2_weevilsOfAll_3 : decode cX2_weevilsOfAll 3 = .ok (.getfield 17, 3) := by decide +kernel
theorem dX2_weevilsOfAll_6 : decode cX2_weevilsOfAll 6 = .ok (.astore_n 2, 1) := by decide +kernel
theorem dX2_weevilsOfAll_7 : decode cX2_weevilsOfAll 7 = .ok (.aload_n 2, 1) := by decide +kernel
theorem dX2_weevilsOfAll_8 : decode cX2_weevilsOfAll 8 = .ok (.arraylength, 1) := by decide +kernel
theorem dX2_weevilsOfAll_9 : decode cX2_weevilsOfAll 9 = .ok (.istore_n 3, 1) := by decide +kernel
theorem dX2_weevilsOfAll_10 : decode cX2_weevilsOfAll 10 = .ok (.iconst 0, 1) := by decide +kernel
theorem dX2_weevilsOfAll_11 : decode cX2_weevilsOfAll 11 = .ok (.istore 4, 2) := by decide +kernel
theorem dX2_weevilsOfAll_13 : decode cX2_weevilsOfAll 13 = .ok (.iload 4, 2) := by decide +kernel
theorem dX2_weevilsOfAll_15 : decode cX2_weevilsOfAll 15 = .ok (.iload_n 3, 1) := by decide +kernel
theorem dX2_weevilsOfAll_16 : decode cX2_weevilsOfAll 16 = .ok (.if_icmp .ge 28, 3) := by decide +kernel
theorem dX2_weevilsOfAll_19 : decode cX2_weevilsOfAll 19 = .ok (.aload_n 2, 1) := by decide +kernel
theorem dX2_weevilsOfAll_20 : decode cX2_weevilsOfAll 20 = .ok (.iload 4, 2) := by decide +kernel
theorem dX2_weevilsOfAll_22 : decode cX2_weevilsOfAll 22 = .ok (.aaload, 1) := by decide +kernel
theorem dX2_weevilsOfAll_23 : decode cX2_weevilsOfAll 23 = .ok (.astore 5, 2) := by decide +kernel
theorem dX2_weevilsOfAll_25 : decode cX2_weevilsOfAll 25 = .ok (.aload 5, 2) := by decide +kernel
theorem dX2_weevilsOfAll_27 : decode cX2_weevilsOfAll 27 = .ok (.ifnull 11, 3) := by decide +kernel
theorem dX2_weevilsOfAll_30 : decode cX2_weevilsOfAll 30 = .ok (.iload_n 1, 1) := by decide +kernel
theorem dX2_weevilsOfAll_31 : decode cX2_weevilsOfAll 31 = .ok (.aload 5, 2) := by decide +kernel
theorem dX2_weevilsOfAll_33 : decode cX2_weevilsOfAll 33 = .ok (.getfield 149, 3) := by decide +kernel
theorem dX2_weevilsOfAll_36 : decode cX2_weevilsOfAll 36 = .ok (.iadd, 1) := by decide +kernel
theorem dX2_weevilsOfAll_37 : decode cX2_weevilsOfAll 37 = .ok (.istore_n 1, 1) := by decide +kernel
theorem dX2_weevilsOfAll_38 : decode cX2_weevilsOfAll 38 = .ok (.iinc 4 1, 3) := by decide +kernel
theorem dX2_weevilsOfAll_41 : decode cX2_weevilsOfAll 41 = .ok (.goto (-28), 3) := by decide +kernel
theorem dX2_weevilsOfAll_44 : decode cX2_weevilsOfAll 44 = .ok (.iload_n 1, 1) := by decide +kernel
theorem dX2_weevilsOfAll_45 : decode cX2_weevilsOfAll 45 = .ok (.ireturn, 1) := by decide +kernel
theorem dX2_loavesOfAll_0 : decode cX2_loavesOfAll 0 = .ok (.iconst 0, 1) := by decide +kernel
theorem dX2_loavesOfAll_1 : decode cX2_loavesOfAll 1 = .ok (.istore_n 1, 1) := by decide +kernel
theorem dX2_loavesOfAll_2 : decode cX2_loavesOfAll 2 = .ok (.aload_n 0, 1) := by decide +kernel
theorem dX2_loavesOfAll_3 : decode cX2_loavesOfAll 3 = .ok (.getfield 23, 3) := by decide +kernel
theorem dX2_loavesOfAll_6 : decode cX2_loavesOfAll 6 = .ok (.astore_n 2, 1) := by decide +kernel
theorem dX2_loavesOfAll_7 : decode cX2_loavesOfAll 7 = .ok (.aload_n 2, 1) := by decide +kernel
theorem dX2_loavesOfAll_8 : decode cX2_loavesOfAll 8 = .ok (.arraylength, 1) := by decide +kernel
theorem dX2_loavesOfAll_9 : decode cX2_loavesOfAll 9 = .ok (.istore_n 3, 1) := by decide +kernel
theorem dX2_loavesOfAll_10 : decode cX2_loavesOfAll 10 = .ok (.iconst 0, 1) := by decide +kernel
theorem dX2_loavesOfAll_11 : decode cX2_loavesOfAll 11 = .ok (.istore 4, 2) := by decide +kernel
theorem dX2_loavesOfAll_13 : decode cX2_loavesOfAll 13 = .ok (.iload 4, 2) := by decide +kernel
theorem dX2_loavesOfAll_15 : decode cX2_loavesOfAll 15 = .ok (.iload_n 3, 1) := by decide +kernel
theorem dX2_loavesOfAll_16 : decode cX2_loavesOfAll 16 = .ok (.if_icmp .ge 28, 3) := by decide +kernel
theorem dX2_loavesOfAll_19 : decode cX2_loavesOfAll 19 = .ok (.aload_n 2, 1) := by decide +kernel
theorem dX2_loavesOfAll_20 : decode cX2_loavesOfAll 20 = .ok (.iload 4, 2) := by decide +kernel
theorem dX2_loavesOfAll_22 : decode cX2_loavesOfAll 22 = .ok (.aaload, 1) := by decide +kernel
theorem dX2_loavesOfAll_23 : decode cX2_loavesOfAll 23 = .ok (.astore 5, 2) := by decide +kernel
theorem dX2_loavesOfAll_25 : decode cX2_loavesOfAll 25 = .ok (.aload 5, 2) := by decide +kernel
theorem dX2_loavesOfAll_27 : decode cX2_loavesOfAll 27 = .ok (.ifnull 11, 3) := by decide +kernel
theorem dX2_loavesOfAll_30 : decode cX2_loavesOfAll 30 = .ok (.iload_n 1, 1) := by decide +kernel
theorem dX2_loavesOfAll_31 : decode cX2_loavesOfAll 31 = .ok (.aload 5, 2) := by decide +kernel
theorem dX2_loavesOfAll_33 : decode cX2_loavesOfAll 33 = .ok (.getfield 152, 3) := by decide +kernel
theorem dX2_loavesOfAll_36 : decode cX2_loavesOfAll 36 = .ok (.iadd, 1) := by decide +kernel
theorem dX2_loavesOfAll_37 : decode cX2_loavesOfAll 37 = .ok (.istore_n 1, 1) := by decide +kernel
theorem dX2_loavesOfAll_38 : decode cX2_loavesOfAll 38 = .ok (.iinc 4 1, 3) := by decide +kernel
theorem dX2_loavesOfAll_41 : decode cX2_loavesOfAll 41 = .ok (.goto (-28), 3) := by decide +kernel
theorem dX2_loavesOfAll_44 : decode cX2_loavesOfAll 44 = .ok (.iload_n 1, 1) := by decide +kernel
theorem dX2_loavesOfAll_45 : decode cX2_loavesOfAll 45 = .ok (.ireturn, 1) := by decide +kernel
theorem dX2_bakersOfStore_0 : decode cX2_bakersOfStore 0 = .ok (.iconst 0, 1) := by decide +kernel
theorem dX2_bakersOfStore_1 : decode cX2_bakersOfStore 1 = .ok (.istore_n 2, 1) := by decide +kernel
theorem dX2_bakersOfStore_2 : decode cX2_bakersOfStore 2 = .ok (.aload_n 0, 1) := by decide +kernel
theorem dX2_bakersOfStore_3 : decode cX2_bakersOfStore 3 = .ok (.getfield 23, 3) := by decide +kernel
theorem dX2_bakersOfStore_6 : decode cX2_bakersOfStore 6 = .ok (.astore_n 3, 1) := by decide +kernel
theorem dX2_bakersOfStore_7 : decode cX2_bakersOfStore 7 = .ok (.aload_n 3, 1) := by decide +kernel
theorem dX2_bakersOfStore_8 : decode cX2_bakersOfStore 8 = .ok (.arraylength, 1) := by decide +kernel
theorem dX2_bakersOfStore_9 : decode cX2_bakersOfStore 9 = .ok (.istore 4, 2) := by decide +kernel
theorem dX2_bakersOfStore_11 : decode cX2_bakersOfStore 11 = .ok (.iconst 0, 1) := by decide +kernel
theorem dX2_bakersOfStore_12 : decode cX2_bakersOfStore 12 = .ok (.istore 5, 2) := by decide +kernel
theorem dX2_bakersOfStore_14 : decode cX2_bakersOfStore 14 = .ok (.iload 5, 2) := by decide +kernel
theorem dX2_bakersOfStore_16 : decode cX2_bakersOfStore 16 = .ok (.iload 4, 2) := by decide +kernel
theorem dX2_bakersOfStore_18 : decode cX2_bakersOfStore 18 = .ok (.if_icmp .ge 32, 3) := by decide +kernel
theorem dX2_bakersOfStore_21 : decode cX2_bakersOfStore 21 = .ok (.aload_n 3, 1) := by decide +kernel
theorem dX2_bakersOfStore_22 : decode cX2_bakersOfStore 22 = .ok (.iload 5, 2) := by decide +kernel
theorem dX2_bakersOfStore_24 : decode cX2_bakersOfStore 24 = .ok (.aaload, 1) := by decide +kernel
theorem dX2_bakersOfStore_25 : decode cX2_bakersOfStore 25 = .ok (.astore 6, 2) := by decide +kernel
theorem dX2_bakersOfStore_27 : decode cX2_bakersOfStore 27 = .ok (.aload 6, 2) := by decide +kernel
theorem dX2_bakersOfStore_29 : decode cX2_bakersOfStore 29 = .ok (.ifnull 15, 3) := by decide +kernel
theorem dX2_bakersOfStore_32 : decode cX2_bakersOfStore 32 = .ok (.aload 6, 2) := by decide +kernel
theorem dX2_bakersOfStore_34 : decode cX2_bakersOfStore 34 = .ok (.getfield 124, 3) := by decide +kernel
theorem dX2_bakersOfStore_37 : decode cX2_bakersOfStore 37 = .ok (.iload_n 1, 1) := by decide +kernel
theorem dX2_bakersOfStore_38 : decode cX2_bakersOfStore 38 = .ok (.if_icmp .ne 6, 3) := by decide +kernel
theorem dX2_bakersOfStore_41 : decode cX2_bakersOfStore 41 = .ok (.iinc 2 1, 3) := by decide +kernel
theorem dX2_bakersOfStore_44 : decode cX2_bakersOfStore 44 = .ok (.iinc 5 1, 3) := by decide +kernel
theorem dX2_bakersOfStore_47 : decode cX2_bakersOfStore 47 = .ok (.goto (-33), 3) := by decide +kernel
theorem dX2_bakersOfStore_50 : decode cX2_bakersOfStore 50 = .ok (.iload_n 2, 1) := by decide +kernel
theorem dX2_bakersOfStore_51 : decode cX2_bakersOfStore 51 = .ok (.ireturn, 1) := by decide +kernel
theorem dX2_barredBakers_0 : decode cX2_barredBakers 0 = .ok (.iconst 0, 1) := by decide +kernel
theorem dX2_barredBakers_1 : decode cX2_barredBakers 1 = .ok (.istore_n 1, 1) := by decide +kernel
theorem dX2_barredBakers_2 : decode cX2_barredBakers 2 = .ok (.aload_n 0, 1) := by decide +kernel
theorem dX2_barredBakers_3 : decode cX2_barredBakers 3 = .ok (.getfield 23, 3) := by decide +kernel
theorem dX2_barredBakers_6 : decode cX2_barredBakers 6 = .ok (.astore_n 2, 1) := by decide +kernel
theorem dX2_barredBakers_7 : decode cX2_barredBakers 7 = .ok (.aload_n 2, 1) := by decide +kernel
theorem dX2_barredBakers_8 : decode cX2_barredBakers 8 = .ok (.arraylength, 1) := by decide +kernel
theorem dX2_barredBakers_9 : decode cX2_barredBakers 9 = .ok (.istore_n 3, 1) := by decide +kernel
theorem dX2_barredBakers_10 : decode cX2_barredBakers 10 = .ok (.iconst 0, 1) := by decide +kernel
theorem dX2_barredBakers_11 : decode cX2_barredBakers 11 = .ok (.istore 4, 2) := by decide +kernel
theorem dX2_barredBakers_13 : decode cX2_barredBakers 13 = .ok (.iload 4, 2) := by decide +kernel
theorem dX2_barredBakers_15 : decode cX2_barredBakers 15 = .ok (.iload_n 3, 1) := by decide +kernel
theorem dX2_barredBakers_16 : decode cX2_barredBakers 16 = .ok (.if_icmp .ge 31, 3) := by decide +kernel
theorem dX2_barredBakers_19 : decode cX2_barredBakers 19 = .ok (.aload_n 2, 1) := by decide +kernel
theorem dX2_barredBakers_20 : decode cX2_barredBakers 20 = .ok (.iload 4, 2) := by decide +kernel
theorem dX2_barredBakers_22 : decode cX2_barredBakers 22 = .ok (.aaload, 1) := by decide +kernel
theorem dX2_barredBakers_23 : decode cX2_barredBakers 23 = .ok (.astore 5, 2) := by decide +kernel
theorem dX2_barredBakers_25 : decode cX2_barredBakers 25 = .ok (.aload 5, 2) := by decide +kernel
theorem dX2_barredBakers_27 : decode cX2_barredBakers 27 = .ok (.ifnull 14, 3) := by decide +kernel
theorem dX2_barredBakers_30 : decode cX2_barredBakers 30 = .ok (.aload 5, 2) := by decide +kernel
theorem dX2_barredBakers_32 : decode cX2_barredBakers 32 = .ok (.getfield 120, 3) := by decide +kernel
theorem dX2_barredBakers_35 : decode cX2_barredBakers 35 = .ok (.ifCond .eq 6, 3) := by decide +kernel
theorem dX2_barredBakers_38 : decode cX2_barredBakers 38 = .ok (.iinc 1 1, 3) := by decide +kernel
theorem dX2_barredBakers_41 : decode cX2_barredBakers 41 = .ok (.iinc 4 1, 3) := by decide +kernel
theorem dX2_barredBakers_44 : decode cX2_barredBakers 44 = .ok (.goto (-31), 3) := by decide +kernel
theorem dX2_barredBakers_47 : decode cX2_barredBakers 47 = .ok (.iload_n 1, 1) := by decide +kernel
theorem dX2_barredBakers_48 : decode cX2_barredBakers 48 = .ok (.ireturn, 1) := by decide +kernel
set_option maxRecDepth 20000 in
theorem ggX2_storeFact_X2_storeAt : GoodIn wsX2_storeFact wsX2_storeAt := goodIn_r _ [8, 9, 19, 20, 21, 22, 23, 24, 25, 26, 27] (by decide +kernel) (by decide +kernel)
set_option maxRecDepth 20000 in
theorem gX2_storeFact_X2_storeAt : GoodIn wsX2_storeFact (wsV RX2 57 RX2 yX2_storeAt wsX2_storeAt) := goodIn_app (goodIn_of _ (by decide +kernel)) ggX2_storeFact_X2_storeAt
set_option maxRecDepth 20000 in
theorem ggX2_storeFact_X2_bakersOfStore : GoodIn wsX2_storeFact wsX2_bakersOfStore := goodIn_r _ [13, 14, 15, 19, 20, 21, 22, 23, 24, 25, 26, 27, 28, 29, 30, 31, 32, 33, 34, 35] (by decide +kernel) (by decide +kernel)
set_option maxRecDepth 20000 in
theorem gX2_storeFact_X2_bakersOfStore : GoodIn wsX2_storeFact (wsV RX2 155 RX2 yX2_bakersOfStore wsX2_bakersOfStore) := goodIn_app (goodIn_of _ (by decide +kernel)) ggX2_storeFact_X2_bakersOfStore
theorem dX2_storeFact_0 : decode cX2_storeFact 0 = .ok (.aload_n 0, 1) := by decide +kernel
theorem dX2_storeFact_1 : decode cX2_storeFact 1 = .ok (.iload_n 1, 1) := by decide +kernel
theorem dX2_storeFact_2 : decode cX2_storeFact 2 = .ok (.invokevirtual 57, 3) := by decide +kernel
theorem dX2_storeFact_5 : decode cX2_storeFact 5 = .ok (.astore_n 3, 1) := by decide +kernel
theorem dX2_storeFact_6 : decode cX2_storeFact 6 = .ok (.aload_n 3, 1) := by decide +kernel
theorem dX2_storeFact_7 : decode cX2_storeFact 7 = .ok (.ifnonnull 5, 3) := by decide +kernel
theorem dX2_storeFact_10 : decode cX2_storeFact 10 = .ok (.iconst 0, 1) := by decide +kernel
theorem dX2_storeFact_11 : decode cX2_storeFact 11 = .ok (.ireturn, 1) := by decide +kernel
theorem dX2_storeFact_12 : decode cX2_storeFact 12 = .ok (.iload_n 2, 1) := by decide +kernel
theorem dX2_storeFact_13 : decode cX2_storeFact 13 = .ok (.tableswitch 43 0 2 #[27, 32, 37], 27) := by decide +kernel
theorem dX2_storeFact_40 : decode cX2_storeFact 40 = .ok (.aload_n 3, 1) := by decide +kernel
theorem dX2_storeFact_41 : decode cX2_storeFact 41 = .ok (.getfield 117, 3) := by decide +kernel
theorem dX2_storeFact_44 : decode cX2_storeFact 44 = .ok (.ireturn, 1) := by decide +kernel
theorem dX2_storeFact_45 : decode cX2_storeFact 45 = .ok (.aload_n 3, 1) := by decide +kernel
theorem dX2_storeFact_46 : decode cX2_storeFact 46 = .ok (.getfield 149, 3) := by decide +kernel
theorem dX2_storeFact_49 : decode cX2_storeFact 49 = .ok (.ireturn, 1) := by decide +kernel
theorem dX2_storeFact_50 : decode cX2_storeFact 50 = .ok (.aload_n 0, 1) := by decide +kernel
theorem dX2_storeFact_51 : decode cX2_storeFact 51 = .ok (.iload_n 1, 1) := by decide +kernel
theorem dX2_storeFact_52 : decode cX2_storeFact 52 = .ok (.invokevirtual 155, 3) := by decide +kernel
theorem dX2_storeFact_55 : decode cX2_storeFact 55 = .ok (.ireturn, 1) := by decide +kernel
theorem dX2_storeFact_56 : decode cX2_storeFact 56 = .ok (.aload_n 3, 1) := by decide +kernel
theorem dX2_storeFact_57 : decode cX2_storeFact 57 = .ok (.getfield 158, 3) := by decide +kernel
theorem dX2_storeFact_60 : decode cX2_storeFact 60 = .ok (.ireturn, 1) := by decide +kernel
set_option maxRecDepth 20000 in
theorem ggX2_fact_X2_hourOfDay : GoodIn wsX2_fact wsX2_hourOfDay := goodIn_r _ [11, 1, 12, 13, 14, 15, 33, 34, 35, 36, 37, 38, 39, 40, 41] (by decide +kernel) (by decide +kernel)
set_option maxRecDepth 20000 in
theorem gX2_fact_X2_hourOfDay : GoodIn wsX2_fact (wsV RX2 85 RX2 yX2_hourOfDay wsX2_hourOfDay) := goodIn_app (goodIn_of _ (by decide +kernel)) ggX2_fact_X2_hourOfDay
set_option maxRecDepth 20000 in
theorem ggX2_fact_X2_flourOfAll : GoodIn wsX2_fact wsX2_flourOfAll := goodIn_r _ [19, 20, 21, 33, 34, 35, 36, 37, 38, 39, 40, 41, 42, 43, 44] (by decide +kernel) (by decide +kernel)
set_option maxRecDepth 20000 in
theorem gX2_fact_X2_flourOfAll : GoodIn wsX2_fact (wsV RX2 161 RX2 yX2_flourOfAll wsX2_flourOfAll) := goodIn_app (goodIn_of _ (by decide +kernel)) ggX2_fact_X2_flourOfAll
set_option maxRecDepth 20000 in
theorem ggX2_fact_X2_loavesOfAll : GoodIn wsX2_fact wsX2_loavesOfAll := goodIn_r _ [25, 26, 27, 33, 34, 35, 36, 37, 38, 39, 40, 41, 45, 46, 47, 48, 49, 50, 51, 52] (by decide +kernel) (by decide +kernel)
set_option maxRecDepth 20000 in
theorem gX2_fact_X2_loavesOfAll : GoodIn wsX2_fact (wsV RX2 164 RX2 yX2_loavesOfAll wsX2_loavesOfAll) := goodIn_app (goodIn_of _ (by decide +kernel)) ggX2_fact_X2_loavesOfAll
set_option maxRecDepth 20000 in
theorem ggX2_fact_X2_barredBakers : GoodIn wsX2_fact wsX2_barredBakers := goodIn_r _ [31, 26, 32, 33, 34, 35, 36, 37, 38, 39, 40, 41, 45, 46, 47, 48, 49, 50, 51, 52] (by decide +kernel) (by decide +kernel)
set_option maxRecDepth 20000 in
theorem gX2_fact_X2_barredBakers : GoodIn wsX2_fact (wsV RX2 167 RX2 yX2_barredBakers wsX2_barredBakers) := goodIn_app (goodIn_of _ (by decide +kernel)) ggX2_fact_X2_barredBakers
theorem dX2_fact_0 : decode cX2_fact 0 = .ok (.iload_n 1, 1) := by decide +kernel
theorem dX2_fact_1 : decode cX2_fact 1 = .ok (.tableswitch 96 0 8 #[51, 56, 61, 66, 71, 76, 81, 86, 91], 51) := by decide +kernel
theorem dX2_fact_52 : decode cX2_fact 52 = .ok (.aload_n 0, 1) := by decide +kernel
theorem dX2_fact_53 : decode cX2_fact 53 = .ok (.getfield 31, 3) := by decide +kernel
theorem dX2_fact_56 : decode cX2_fact 56 = .ok (.ireturn, 1) := by decide +kernel
theorem dX2_fact_57 : decode cX2_fact 57 = .ok (.aload_n 0, 1) := by decide +kernel
theorem dX2_fact_58 : decode cX2_fact 58 = .ok (.invokevirtual 85, 3) := by decide +kernel
theorem dX2_fact_61 : decode cX2_fact 61 = .ok (.ireturn, 1) := by decide +kernel
theorem dX2_fact_62 : decode cX2_fact 62 = .ok (.aload_n 0, 1) := by decide +kernel
theorem dX2_fact_63 : decode cX2_fact 63 = .ok (.getfield 27, 3) := by decide +kernel
theorem dX2_fact_66 : decode cX2_fact 66 = .ok (.ireturn, 1) := by decide +kernel
theorem dX2_fact_67 : decode cX2_fact 67 = .ok (.aload_n 0, 1) := by decide +kernel
theorem dX2_fact_68 : decode cX2_fact 68 = .ok (.invokevirtual 161, 3) := by decide +kernel
theorem dX2_fact_71 : decode cX2_fact 71 = .ok (.ireturn, 1) := by decide +kernel
theorem dX2_fact_72 : decode cX2_fact 72 = .ok (.aload_n 0, 1) := by decide +kernel
theorem dX2_fact_73 : decode cX2_fact 73 = .ok (.invokevirtual 164, 3) := by decide +kernel
theorem dX2_fact_76 : decode cX2_fact 76 = .ok (.ireturn, 1) := by decide +kernel
theorem dX2_fact_77 : decode cX2_fact 77 = .ok (.aload_n 0, 1) := by decide +kernel
theorem dX2_fact_78 : decode cX2_fact 78 = .ok (.getfield 34, 3) := by decide +kernel
theorem dX2_fact_81 : decode cX2_fact 81 = .ok (.ireturn, 1) := by decide +kernel
theorem dX2_fact_82 : decode cX2_fact 82 = .ok (.aload_n 0, 1) := by decide +kernel
theorem dX2_fact_83 : decode cX2_fact 83 = .ok (.getfield 37, 3) := by decide +kernel
theorem dX2_fact_86 : decode cX2_fact 86 = .ok (.ireturn, 1) := by decide +kernel
theorem dX2_fact_87 : decode cX2_fact 87 = .ok (.aload_n 0, 1) := by decide +kernel
theorem dX2_fact_88 : decode cX2_fact 88 = .ok (.getfield 40, 3) := by decide +kernel
theorem dX2_fact_91 : decode cX2_fact 91 = .ok (.ireturn, 1) := by decide +kernel
theorem dX2_fact_92 : decode cX2_fact 92 = .ok (.aload_n 0, 1) := by decide +kernel
theorem dX2_fact_93 : decode cX2_fact 93 = .ok (.invokevirtual 167, 3) := by decide +kernel
theorem dX2_fact_96 : decode cX2_fact 96 = .ok (.ireturn, 1) := by decide +kernel
theorem dX2_fact_97 : decode cX2_fact 97 = .ok (.aload_n 0, 1) := by decide +kernel
theorem dX2_fact_98 : decode cX2_fact 98 = .ok (.getfield 43, 3) := by decide +kernel
theorem dX2_fact_101 : decode cX2_fact 101 = .ok (.ireturn, 1) := by decide +kernel
theorem dJ9_floorMod_7cf53_0 : decode cJ9_floorMod_7cf53 0 = .ok (.iload_n 0, 1) := by decide +kernel
theorem dJ9_floorMod_7cf53_1 : decode cJ9_floorMod_7cf53 1 = .ok (.iload_n 1, 1) := by decide +kernel
theorem dJ9_floorMod_7cf53_2 : decode cJ9_floorMod_7cf53 2 = .ok (.irem, 1) := by decide +kernel
theorem dJ9_floorMod_7cf53_3 : decode cJ9_floorMod_7cf53 3 = .ok (.istore_n 2, 1) := by decide +kernel
theorem dJ9_floorMod_7cf53_4 : decode cJ9_floorMod_7cf53 4 = .ok (.iload_n 0, 1) := by decide +kernel
theorem dJ9_floorMod_7cf53_5 : decode cJ9_floorMod_7cf53 5 = .ok (.iload_n 1, 1) := by decide +kernel
theorem dJ9_floorMod_7cf53_6 : decode cJ9_floorMod_7cf53 6 = .ok (.ixor, 1) := by decide +kernel
theorem dJ9_floorMod_7cf53_7 : decode cJ9_floorMod_7cf53 7 = .ok (.ifCond .ge 11, 3) := by decide +kernel
theorem dJ9_floorMod_7cf53_10 : decode cJ9_floorMod_7cf53 10 = .ok (.iload_n 2, 1) := by decide +kernel
theorem dJ9_floorMod_7cf53_11 : decode cJ9_floorMod_7cf53 11 = .ok (.ifCond .eq 7, 3) := by decide +kernel
theorem dJ9_floorMod_7cf53_14 : decode cJ9_floorMod_7cf53 14 = .ok (.iload_n 2, 1) := by decide +kernel
theorem dJ9_floorMod_7cf53_15 : decode cJ9_floorMod_7cf53 15 = .ok (.iload_n 1, 1) := by decide +kernel
theorem dJ9_floorMod_7cf53_16 : decode cJ9_floorMod_7cf53 16 = .ok (.iadd, 1) := by decide +kernel
theorem dJ9_floorMod_7cf53_17 : decode cJ9_floorMod_7cf53 17 = .ok (.ireturn, 1) := by decide +kernel
theorem dJ9_floorMod_7cf53_18 : decode cJ9_floorMod_7cf53 18 = .ok (.iload_n 2, 1) := by decide +kernel
theorem dJ9_floorMod_7cf53_19 : decode cJ9_floorMod_7cf53 19 = .ok (.ireturn, 1) := by decide +kernel
theorem dJ9_max_7cf53_0 : decode cJ9_max_7cf53 0 = .ok (.iload_n 0, 1) := by decide +kernel
theorem dJ9_max_7cf53_1 : decode cJ9_max_7cf53 1 = .ok (.iload_n 1, 1) := by decide +kernel
theorem dJ9_max_7cf53_2 : decode cJ9_max_7cf53 2 = .ok (.if_icmp .lt 7, 3) := by decide +kernel
theorem dJ9_max_7cf53_5 : decode cJ9_max_7cf53 5 = .ok (.iload_n 0, 1) := by decide +kernel
theorem dJ9_max_7cf53_6 : decode cJ9_max_7cf53 6 = .ok (.goto 4, 3) := by decide +kernel
theorem dJ9_max_7cf53_9 : decode cJ9_max_7cf53 9 = .ok (.iload_n 1, 1) := by decide +kernel
theorem dJ9_max_7cf53_10 : decode cJ9_max_7cf53 10 = .ok (.ireturn, 1) := by decide +kernel
theorem dJ9_min_7cf53_0 : decode cJ9_min_7cf53 0 = .ok (.iload_n 0, 1) := by decide +kernel
theorem dJ9_min_7cf53_1 : decode cJ9_min_7cf53 1 = .ok (.iload_n 1, 1) := by decide +kernel
theorem dJ9_min_7cf53_2 : decode cJ9_min_7cf53 2 = .ok (.if_icmp .gt 7, 3) := by decide +kernel
theorem dJ9_min_7cf53_5 : decode cJ9_min_7cf53 5 = .ok (.iload_n 0, 1) := by decide +kernel
theorem dJ9_min_7cf53_6 : decode cJ9_min_7cf53 6 = .ok (.goto 4, 3) := by decide +kernel
theorem dJ9_min_7cf53_9 : decode cJ9_min_7cf53 9 = .ok (.iload_n 1, 1) := by decide +kernel
theorem dJ9_min_7cf53_10 : decode cJ9_min_7cf53 10 = .ok (.ireturn, 1) := by decide +kernel
abbrev vwCl : List vw_C := [(RX0, TX0, 8), (RX1, TX1, 3), (RX2, TX2, 9), (RX3, TX3, 2), (RX4, TX4, 9)]

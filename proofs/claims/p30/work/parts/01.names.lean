/-- a private method of a class that the tables say can be made, by its rows of tables_1 -/
def lw_okq (q : MethodName × Nat) : Prop := (q.1.cls ≠ "java/lang/invoke/MethodHandle" ∧ q.1.cls ≠ "java/lang/invoke/VarHandle") ∧ Cond.instantiable q.1.cls q.2 ∈ tables_1 ∧ Cond.privateMethod q.1 ∈ tables_1 ∧ Cond.instanceMethod q.1 ∈ tables_1
theorem lw_p0 : lw_okq (⟨"PlateWriters$Desk", "clearFor", "(LPlateWriters$Glass;I)V"⟩, 9) := ⟨⟨by decide +kernel, by decide +kernel⟩, List.mem_of_getElem? (i := 20) (by decide +kernel), List.mem_of_getElem? (i := 407) (by decide +kernel), List.mem_of_getElem? (i := 408) (by decide +kernel)⟩
theorem lw_p1 : lw_okq (⟨"PlateWriters$Desk", "clearedFor", "(FI)F"⟩, 9) := ⟨⟨by decide +kernel, by decide +kernel⟩, List.mem_of_getElem? (i := 20) (by decide +kernel), List.mem_of_getElem? (i := 411) (by decide +kernel), List.mem_of_getElem? (i := 412) (by decide +kernel)⟩
theorem lw_p2 : lw_okq (⟨"PlateWriters$Desk", "hoursUntilEnough", "(F)I"⟩, 9) := ⟨⟨by decide +kernel, by decide +kernel⟩, List.mem_of_getElem? (i := 20) (by decide +kernel), List.mem_of_getElem? (i := 456) (by decide +kernel), List.mem_of_getElem? (i := 457) (by decide +kernel)⟩
theorem lw_p3 : lw_okq (⟨"PlateWriters", "columnsThat", "(LPlateWriters$Glass;II)I"⟩, 6) := ⟨⟨by decide +kernel, by decide +kernel⟩, List.mem_of_getElem? (i := 12) (by decide +kernel), List.mem_of_getElem? (i := 486) (by decide +kernel), List.mem_of_getElem? (i := 487) (by decide +kernel)⟩
theorem lw_p4 : lw_okq (⟨"PlateWriters$Trial", "lookAhead", "(LPlateWriters$Desk;II)V"⟩, 2) := ⟨⟨by decide +kernel, by decide +kernel⟩, List.mem_of_getElem? (i := 175) (by decide +kernel), List.mem_of_getElem? (i := 503) (by decide +kernel), List.mem_of_getElem? (i := 504) (by decide +kernel)⟩
theorem lw_p5 : lw_okq (⟨"PlateWriters$Trial", "brightest", "(LPlateWriters$Desk;)I"⟩, 2) := ⟨⟨by decide +kernel, by decide +kernel⟩, List.mem_of_getElem? (i := 175) (by decide +kernel), List.mem_of_getElem? (i := 509) (by decide +kernel), List.mem_of_getElem? (i := 510) (by decide +kernel)⟩
theorem lw_p6 : lw_okq (⟨"PlateWriters$Trial", "lookAround", "(LPlateWriters$Desk;I)V"⟩, 2) := ⟨⟨by decide +kernel, by decide +kernel⟩, List.mem_of_getElem? (i := 175) (by decide +kernel), List.mem_of_getElem? (i := 561) (by decide +kernel), List.mem_of_getElem? (i := 562) (by decide +kernel)⟩
def lw_privs_1 : List (MethodName × Nat) := [(⟨"PlateWriters$Desk", "clearFor", "(LPlateWriters$Glass;I)V"⟩, 9), (⟨"PlateWriters$Desk", "clearedFor", "(FI)F"⟩, 9), (⟨"PlateWriters$Desk", "hoursUntilEnough", "(F)I"⟩, 9), (⟨"PlateWriters", "columnsThat", "(LPlateWriters$Glass;II)I"⟩, 6), (⟨"PlateWriters$Trial", "lookAhead", "(LPlateWriters$Desk;II)V"⟩, 2), (⟨"PlateWriters$Trial", "brightest", "(LPlateWriters$Desk;)I"⟩, 2), (⟨"PlateWriters$Trial", "lookAround", "(LPlateWriters$Desk;I)V"⟩, 2)]
theorem lw_r1 : ∀ q ∈ lw_privs_1, lw_okq q := List.forall_mem_cons.mpr ⟨lw_p0, List.forall_mem_cons.mpr ⟨lw_p1, List.forall_mem_cons.mpr ⟨lw_p2, List.forall_mem_cons.mpr ⟨lw_p3, List.forall_mem_cons.mpr ⟨lw_p4, List.forall_mem_cons.mpr ⟨lw_p5, List.forall_mem_cons.mpr ⟨lw_p6, fun _ h => absurd h List.not_mem_nil⟩⟩⟩⟩⟩⟩⟩
def lw_privs : List (MethodName × Nat) := lw_privs_1
def lw_tbl : List Cond := k2_sels lw_privs ++ tables_1
theorem lw_privs_ok : ∀ q ∈ lw_privs, lw_okq q := lw_r1
/-- the streams that the claim lets the run draw from -/
abbrev lw_cs : List Choice := [Jvm.Choice.named "NaN.bits"]
theorem lw_bits : nanBits ∈ lw_cs := by first | decide | exact List.mem_cons_self | simp [lw_cs, nanBits]
def RX0 : String := "PlateWriters$Desk"
def TX0 : u_T := fun k => match k with
  | 0 => ("PlateWriters$Desk", "settings", "[I", true)
  | 1 => ("PlateWriters$Desk", "press", "[I", true)
  | 2 => ("PlateWriters$Desk", "written", "[I", true)
  | 3 => ("PlateWriters$Desk", "spoiled", "[I", true)
  | 4 => ("PlateWriters$Desk", "glasses", "[LPlateWriters$Glass;", true)
  | 5 => ("PlateWriters$Desk", "hours", "I", false)
  | 6 => ("PlateWriters$Desk", "plates", "I", false)
  | 7 => ("PlateWriters$Desk", "onDesk", "I", false)
  | _ => ("PlateWriters$Desk", "people", "I", false)
def tyX0 : Nat → FieldType := fun k => match k with
  | 0 => .array .int
  | 1 => .array .int
  | 2 => .array .int
  | 3 => .array .int
  | 4 => .array (.object "PlateWriters$Glass")
  | 5 => .int
  | 6 => .int
  | 7 => .int
  | _ => .int
abbrev wsX00 : List Cond := u_ws RX0 TX0 9
theorem nmX0 : ∀ a, a < 9 → ∀ b, b < 9 → a ≠ b → (TX0 a).2.1 ≠ (TX0 b).2.1 := by decide +kernel
theorem tyX0_ok : ∀ k, k < 9 → parseFieldDescriptor (TX0 k).2.2.1 = some (tyX0 k) := by decide +kernel
abbrev cX0_init : ByteArray := prog_2_method_1_code
def yX0_init : MethodName := ⟨RX0, "<init>", "()V"⟩
abbrev cX0_copyFrom : ByteArray := prog_2_method_2_code
def yX0_copyFrom : MethodName := ⟨RX0, "copyFrom", "(LPlateWriters$Desk;)V"⟩
abbrev cX0_isPlate : ByteArray := prog_2_method_3_code
def yX0_isPlate : MethodName := ⟨RX0, "isPlate", "(I)Z"⟩
abbrev cX0_isWriter : ByteArray := prog_2_method_4_code
def yX0_isWriter : MethodName := ⟨RX0, "isWriter", "(I)Z"⟩
abbrev cX0_glassOnDesk : ByteArray := prog_2_method_5_code
def yX0_glassOnDesk : MethodName := ⟨RX0, "glassOnDesk", "()LPlateWriters$Glass;"⟩
abbrev cX0_change : ByteArray := prog_2_method_6_code
def yX0_change : MethodName := ⟨RX0, "change", "(II)I"⟩
abbrev cX0_addPlate : ByteArray := prog_2_method_7_code
def yX0_addPlate : MethodName := ⟨RX0, "addPlate", "()I"⟩
abbrev cX0_layPlate : ByteArray := prog_2_method_8_code
def yX0_layPlate : MethodName := ⟨RX0, "layPlate", "(I)I"⟩
abbrev cX0_addWriter : ByteArray := prog_2_method_9_code
def yX0_addWriter : MethodName := ⟨RX0, "addWriter", "(I)I"⟩
abbrev cX0_writeLetter : ByteArray := prog_2_method_10_code
def yX0_writeLetter : MethodName := ⟨RX0, "writeLetter", "(IIII)I"⟩
abbrev cX0_promisePlace : ByteArray := prog_2_method_11_code
def yX0_promisePlace : MethodName := ⟨RX0, "promisePlace", "(III)I"⟩
abbrev cX0_takePromiseBack : ByteArray := prog_2_method_12_code
def yX0_takePromiseBack : MethodName := ⟨RX0, "takePromiseBack", "(II)I"⟩
abbrev cX0_rubLetter : ByteArray := prog_2_method_13_code
def yX0_rubLetter : MethodName := ⟨RX0, "rubLetter", "(II)I"⟩
abbrev cX0_passHours : ByteArray := prog_2_method_14_code
def yX0_passHours : MethodName := ⟨RX0, "passHours", "(I)I"⟩
abbrev cX0_isEnough : ByteArray := prog_2_method_15_code
def yX0_isEnough : MethodName := ⟨RX0, "isEnough", "(F)Z"⟩
abbrev cX0_cleared : ByteArray := prog_2_method_16_code
def yX0_cleared : MethodName := ⟨RX0, "cleared", "(F)F"⟩
abbrev cX0_clearedFor : ByteArray := prog_2_method_17_code
def yX0_clearedFor : MethodName := ⟨RX0, "clearedFor", "(FI)F"⟩
abbrev cX0_clearFor : ByteArray := prog_2_method_18_code
def yX0_clearFor : MethodName := ⟨RX0, "clearFor", "(LPlateWriters$Glass;I)V"⟩
abbrev cX0_dimmed : ByteArray := prog_2_method_19_code
def yX0_dimmed : MethodName := ⟨RX0, "dimmed", "(FII)F"⟩
abbrev cX0_mark : ByteArray := prog_2_method_20_code
def yX0_mark : MethodName := ⟨RX0, "mark", "(LPlateWriters$Glass;III)I"⟩
abbrev cX0_lightAhead : ByteArray := prog_2_method_21_code
def yX0_lightAhead : MethodName := ⟨RX0, "lightAhead", "(LPlateWriters$Glass;I)F"⟩
abbrev cX0_hoursUntilReadable : ByteArray := prog_2_method_23_code
def yX0_hoursUntilReadable : MethodName := ⟨RX0, "hoursUntilReadable", "(LPlateWriters$Glass;)I"⟩
abbrev cX0_hoursUntilEnough : ByteArray := prog_2_method_24_code
def yX0_hoursUntilEnough : MethodName := ⟨RX0, "hoursUntilEnough", "(F)I"⟩
abbrev cX0_canBeRead : ByteArray := prog_2_method_25_code
def yX0_canBeRead : MethodName := ⟨RX0, "canBeRead", "(LPlateWriters$Glass;I)Z"⟩
abbrev cX0_hasRoom : ByteArray := prog_2_method_26_code
def yX0_hasRoom : MethodName := ⟨RX0, "hasRoom", "(LPlateWriters$Glass;I)Z"⟩
abbrev cX0_placeIs : ByteArray := prog_2_method_27_code
def yX0_placeIs : MethodName := ⟨RX0, "placeIs", "(LPlateWriters$Glass;II)Z"⟩
abbrev cX0_placesThat : ByteArray := prog_2_method_28_code
def yX0_placesThat : MethodName := ⟨RX0, "placesThat", "(LPlateWriters$Glass;I)I"⟩
abbrev cX0_placesOfWriter : ByteArray := prog_2_method_29_code
def yX0_placesOfWriter : MethodName := ⟨RX0, "placesOfWriter", "(II)I"⟩
abbrev cX0_distance : ByteArray := prog_2_method_30_code
def yX0_distance : MethodName := ⟨RX0, "distance", "(II)I"⟩
def RX1 : String := "PlateWriters$Glass"
def TX1 : u_T := fun k => match k with
  | 0 => ("PlateWriters$Glass", "light", "[F", true)
  | 1 => ("PlateWriters$Glass", "letters", "[I", true)
  | 2 => ("PlateWriters$Glass", "writers", "[I", true)
  | _ => ("PlateWriters$Glass", "promised", "[I", true)
def tyX1 : Nat → FieldType := fun k => match k with
  | 0 => .array .float
  | 1 => .array .int
  | 2 => .array .int
  | _ => .array .int
abbrev wsX10 : List Cond := u_ws RX1 TX1 4
theorem nmX1 : ∀ a, a < 4 → ∀ b, b < 4 → a ≠ b → (TX1 a).2.1 ≠ (TX1 b).2.1 := by decide +kernel
theorem tyX1_ok : ∀ k, k < 4 → parseFieldDescriptor (TX1 k).2.2.1 = some (tyX1 k) := by decide +kernel
abbrev cX1_init : ByteArray := prog_3_method_1_code
def yX1_init : MethodName := ⟨RX1, "<init>", "()V"⟩
abbrev cX1_makeNew : ByteArray := prog_3_method_2_code
def yX1_makeNew : MethodName := ⟨RX1, "makeNew", "()V"⟩
abbrev cX1_copyFrom : ByteArray := prog_3_method_3_code
def yX1_copyFrom : MethodName := ⟨RX1, "copyFrom", "(LPlateWriters$Glass;)V"⟩
abbrev cX1_isFree : ByteArray := prog_3_method_4_code
def yX1_isFree : MethodName := ⟨RX1, "isFree", "(I)Z"⟩
abbrev cX1_promisedPlaces : ByteArray := prog_3_method_5_code
def yX1_promisedPlaces : MethodName := ⟨RX1, "promisedPlaces", "()I"⟩
abbrev cX1_leastLight : ByteArray := prog_3_method_6_code
def yX1_leastLight : MethodName := ⟨RX1, "leastLight", "()F"⟩
abbrev cX1_sumOfLight : ByteArray := prog_3_method_7_code
def yX1_sumOfLight : MethodName := ⟨RX1, "sumOfLight", "()F"⟩
def RX2 : String := "PlateWriters$History"
def TX2 : u_T := fun k => match k with
  | 0 => ("PlateWriters$History", "states", "[LPlateWriters$Desk;", true)
  | 1 => ("PlateWriters$History", "next", "I", false)
  | _ => ("PlateWriters$History", "kept", "I", false)
def tyX2 : Nat → FieldType := fun k => match k with
  | 0 => .array (.object "PlateWriters$Desk")
  | 1 => .int
  | _ => .int
abbrev wsX20 : List Cond := u_ws RX2 TX2 3
theorem nmX2 : ∀ a, a < 3 → ∀ b, b < 3 → a ≠ b → (TX2 a).2.1 ≠ (TX2 b).2.1 := by decide +kernel
theorem tyX2_ok : ∀ k, k < 3 → parseFieldDescriptor (TX2 k).2.2.1 = some (tyX2 k) := by decide +kernel
abbrev cX2_init : ByteArray := prog_4_method_1_code
def yX2_init : MethodName := ⟨RX2, "<init>", "()V"⟩
abbrev cX2_prepare : ByteArray := prog_4_method_2_code
def yX2_prepare : MethodName := ⟨RX2, "prepare", "(LPlateWriters$Desk;)V"⟩
abbrev cX2_keepUnlessError : ByteArray := prog_4_method_3_code
def yX2_keepUnlessError : MethodName := ⟨RX2, "keepUnlessError", "(I)I"⟩
abbrev cX2_takeBackInto : ByteArray := prog_4_method_4_code
def yX2_takeBackInto : MethodName := ⟨RX2, "takeBackInto", "(LPlateWriters$Desk;)I"⟩
def RX3 : String := "PlateWriters$Orders"
def TX3 : u_T := fun k => match k with
  | 0 => ("PlateWriters$Orders", "pad", "LPlateWriters$Pad;", true)
  | 1 => ("PlateWriters$Orders", "kinds", "[C", true)
  | 2 => ("PlateWriters$Orders", "firsts", "[I", true)
  | 3 => ("PlateWriters$Orders", "rows", "[I", true)
  | 4 => ("PlateWriters$Orders", "columns", "[I", true)
  | 5 => ("PlateWriters$Orders", "letters", "[I", true)
  | 6 => ("PlateWriters$Orders", "size", "I", false)
  | 7 => ("PlateWriters$Orders", "next", "I", false)
  | 8 => ("PlateWriters$Orders", "number", "I", false)
  | 9 => ("PlateWriters$Orders", "first", "I", false)
  | 10 => ("PlateWriters$Orders", "row", "I", false)
  | _ => ("PlateWriters$Orders", "column", "I", false)
def tyX3 : Nat → FieldType := fun k => match k with
  | 0 => .object "PlateWriters$Pad"
  | 1 => .array .char
  | 2 => .array .int
  | 3 => .array .int
  | 4 => .array .int
  | 5 => .array .int
  | 6 => .int
  | 7 => .int
  | 8 => .int
  | 9 => .int
  | 10 => .int
  | _ => .int
abbrev wsX30 : List Cond := u_ws RX3 TX3 12
theorem nmX3 : ∀ a, a < 12 → ∀ b, b < 12 → a ≠ b → (TX3 a).2.1 ≠ (TX3 b).2.1 := by decide +kernel
theorem tyX3_ok : ∀ k, k < 12 → parseFieldDescriptor (TX3 k).2.2.1 = some (tyX3 k) := by decide +kernel
abbrev cX3_init : ByteArray := prog_5_method_1_code
def yX3_init : MethodName := ⟨RX3, "<init>", "()V"⟩
def RX4 : String := "PlateWriters$Pad"
def TX4 : u_T := fun k => match k with
  | 0 => ("PlateWriters$Pad", "signs", "[C", true)
  | _ => ("PlateWriters$Pad", "length", "I", false)
def tyX4 : Nat → FieldType := fun k => match k with
  | 0 => .array .char
  | _ => .int
abbrev wsX40 : List Cond := u_ws RX4 TX4 2
theorem nmX4 : ∀ a, a < 2 → ∀ b, b < 2 → a ≠ b → (TX4 a).2.1 ≠ (TX4 b).2.1 := by decide +kernel
theorem tyX4_ok : ∀ k, k < 2 → parseFieldDescriptor (TX4 k).2.2.1 = some (tyX4 k) := by decide +kernel
abbrev cX4_init : ByteArray := prog_6_method_1_code
def yX4_init : MethodName := ⟨RX4, "<init>", "()V"⟩
def RX5 : String := "PlateWriters$Trial"
def TX5 : u_T := fun k => match k with
  | 0 => ("PlateWriters$Trial", "tried", "LPlateWriters$Glass;", true)
  | _ => ("PlateWriters$Trial", "ahead", "[F", true)
def tyX5 : Nat → FieldType := fun k => match k with
  | 0 => .object "PlateWriters$Glass"
  | _ => .array .float
abbrev wsX50 : List Cond := u_ws RX5 TX5 2
theorem nmX5 : ∀ a, a < 2 → ∀ b, b < 2 → a ≠ b → (TX5 a).2.1 ≠ (TX5 b).2.1 := by decide +kernel
theorem tyX5_ok : ∀ k, k < 2 → parseFieldDescriptor (TX5 k).2.2.1 = some (tyX5 k) := by decide +kernel
abbrev cX5_init : ByteArray := prog_7_method_1_code
def yX5_init : MethodName := ⟨RX5, "<init>", "()V"⟩
abbrev cX5_lettersSpoiled : ByteArray := prog_7_method_2_code
def yX5_lettersSpoiled : MethodName := ⟨RX5, "lettersSpoiled", "(LPlateWriters$Desk;LPlateWriters$Glass;II)I"⟩
abbrev cX5_promisesSpoiled : ByteArray := prog_7_method_3_code
def yX5_promisesSpoiled : MethodName := ⟨RX5, "promisesSpoiled", "(LPlateWriters$Desk;LPlateWriters$Glass;II)I"⟩
abbrev cX5_roomLeft : ByteArray := prog_7_method_4_code
def yX5_roomLeft : MethodName := ⟨RX5, "roomLeft", "(LPlateWriters$Desk;LPlateWriters$Glass;II)I"⟩
abbrev cX5_brightestOf : ByteArray := prog_7_method_5_code
def yX5_brightestOf : MethodName := ⟨RX5, "brightestOf", "(LPlateWriters$Desk;LPlateWriters$Glass;)I"⟩
abbrev cX5_lettersUntilFull : ByteArray := prog_7_method_6_code
def yX5_lettersUntilFull : MethodName := ⟨RX5, "lettersUntilFull", "(LPlateWriters$Desk;LPlateWriters$Glass;I)I"⟩
abbrev cX5_lookAhead : ByteArray := prog_7_method_7_code
def yX5_lookAhead : MethodName := ⟨RX5, "lookAhead", "(LPlateWriters$Desk;II)V"⟩
abbrev cX5_lookAround : ByteArray := prog_7_method_8_code
def yX5_lookAround : MethodName := ⟨RX5, "lookAround", "(LPlateWriters$Desk;I)V"⟩
abbrev cX5_brightest : ByteArray := prog_7_method_9_code
def yX5_brightest : MethodName := ⟨RX5, "brightest", "(LPlateWriters$Desk;)I"⟩
def RX6 : String := "PlateWriters"
def TX6 : u_T := fun k => match k with
  | 0 => ("PlateWriters", "now", "LPlateWriters$Desk;", true)
  | 1 => ("PlateWriters", "history", "LPlateWriters$History;", true)
  | 2 => ("PlateWriters", "slots", "[LPlateWriters$Desk;", true)
  | 3 => ("PlateWriters", "saved", "[Z", true)
  | 4 => ("PlateWriters", "orders", "LPlateWriters$Orders;", true)
  | _ => ("PlateWriters", "trial", "LPlateWriters$Trial;", true)
def tyX6 : Nat → FieldType := fun k => match k with
  | 0 => .object "PlateWriters$Desk"
  | 1 => .object "PlateWriters$History"
  | 2 => .array (.object "PlateWriters$Desk")
  | 3 => .array .boolean
  | 4 => .object "PlateWriters$Orders"
  | _ => .object "PlateWriters$Trial"
abbrev wsX60 : List Cond := u_ws RX6 TX6 6
theorem nmX6 : ∀ a, a < 6 → ∀ b, b < 6 → a ≠ b → (TX6 a).2.1 ≠ (TX6 b).2.1 := by decide +kernel
theorem tyX6_ok : ∀ k, k < 6 → parseFieldDescriptor (TX6 k).2.2.1 = some (tyX6 k) := by decide +kernel
abbrev cX6_init : ByteArray := prog_1_method_1_code
def yX6_init : MethodName := ⟨RX6, "<init>", "()V"⟩
abbrev cX6_set : ByteArray := prog_1_method_2_code
def yX6_set : MethodName := ⟨RX6, "set", "(II)I"⟩
abbrev cX6_plate : ByteArray := prog_1_method_3_code
def yX6_plate : MethodName := ⟨RX6, "plate", "()I"⟩
abbrev cX6_lay : ByteArray := prog_1_method_4_code
def yX6_lay : MethodName := ⟨RX6, "lay", "(I)I"⟩
abbrev cX6_writer : ByteArray := prog_1_method_5_code
def yX6_writer : MethodName := ⟨RX6, "writer", "(I)I"⟩
abbrev cX6_write : ByteArray := prog_1_method_6_code
def yX6_write : MethodName := ⟨RX6, "write", "(IIII)I"⟩
abbrev cX6_promise : ByteArray := prog_1_method_7_code
def yX6_promise : MethodName := ⟨RX6, "promise", "(III)I"⟩
abbrev cX6_takeBack : ByteArray := prog_1_method_8_code
def yX6_takeBack : MethodName := ⟨RX6, "takeBack", "(II)I"⟩
abbrev cX6_rub : ByteArray := prog_1_method_9_code
def yX6_rub : MethodName := ⟨RX6, "rub", "(II)I"⟩
abbrev cX6_pass : ByteArray := prog_1_method_10_code
def yX6_pass : MethodName := ⟨RX6, "pass", "(I)I"⟩
abbrev cX6_at : ByteArray := prog_1_method_11_code
def yX6_at : MethodName := ⟨RX6, "at", "(III)I"⟩
abbrev cX6_row : ByteArray := prog_1_method_12_code
def yX6_row : MethodName := ⟨RX6, "row", "(II)I"⟩
abbrev cX6_of : ByteArray := prog_1_method_13_code
def yX6_of : MethodName := ⟨RX6, "of", "(II)I"⟩
abbrev cX6_ofPlate : ByteArray := prog_1_method_14_code
def yX6_ofPlate : MethodName := ⟨RX6, "ofPlate", "(II)I"⟩
abbrev cX6_count : ByteArray := prog_1_method_15_code
def yX6_count : MethodName := ⟨RX6, "count", "(I)I"⟩
abbrev cX6_mean : ByteArray := prog_1_method_16_code
def yX6_mean : MethodName := ⟨RX6, "mean", "()J"⟩
abbrev cX6_ifWritten : ByteArray := prog_1_method_17_code
def yX6_ifWritten : MethodName := ⟨RX6, "ifWritten", "(IIII)I"⟩
abbrev cX6_bestPlace : ByteArray := prog_1_method_18_code
def yX6_bestPlace : MethodName := ⟨RX6, "bestPlace", "()I"⟩
abbrev cX6_fills : ByteArray := prog_1_method_19_code
def yX6_fills : MethodName := ⟨RX6, "fills", "(I)I"⟩
abbrev cX6_readableIn : ByteArray := prog_1_method_21_code
def yX6_readableIn : MethodName := ⟨RX6, "readableIn", "(I)I"⟩
abbrev cX6_undo : ByteArray := prog_1_method_26_code
def yX6_undo : MethodName := ⟨RX6, "undo", "()I"⟩
abbrev cX6_save : ByteArray := prog_1_method_27_code
def yX6_save : MethodName := ⟨RX6, "save", "(I)I"⟩
abbrev cX6_restore : ByteArray := prog_1_method_28_code
def yX6_restore : MethodName := ⟨RX6, "restore", "(I)I"⟩
abbrev cX6_isPlace : ByteArray := prog_1_method_29_code
def yX6_isPlace : MethodName := ⟨RX6, "isPlace", "(II)Z"⟩
abbrev cX6_firstNear : ByteArray := prog_1_method_30_code
def yX6_firstNear : MethodName := ⟨RX6, "firstNear", "(I)I"⟩
abbrev cX6_lastNear : ByteArray := prog_1_method_31_code
def yX6_lastNear : MethodName := ⟨RX6, "lastNear", "(II)I"⟩
abbrev cX6_columnsThat : ByteArray := prog_1_method_32_code
def yX6_columnsThat : MethodName := ⟨RX6, "columnsThat", "(LPlateWriters$Glass;II)I"⟩
abbrev cX6_longestRun : ByteArray := prog_1_method_33_code
def yX6_longestRun : MethodName := ⟨RX6, "longestRun", "(I)I"⟩
abbrev cX6_bitsOfFloat : ByteArray := prog_1_method_35_code
def yX6_bitsOfFloat : MethodName := ⟨RX6, "bitsOfFloat", "(F)I"⟩
abbrev cX6_bitsOfMean : ByteArray := prog_1_method_36_code
def yX6_bitsOfMean : MethodName := ⟨RX6, "bitsOfMean", "(D)J"⟩
def RX7 : String := "PlateWritersModel"
def TX7 : u_T := fun k => match k with
  | _ => ("", "", "", false)
def tyX7 : Nat → FieldType := fun k => match k with
  | _ => .int
abbrev wsX70 : List Cond := u_ws RX7 TX7 0
theorem nmX7 : ∀ a, a < 0 → ∀ b, b < 0 → a ≠ b → (TX7 a).2.1 ≠ (TX7 b).2.1 := by decide +kernel
theorem tyX7_ok : ∀ k, k < 0 → parseFieldDescriptor (TX7 k).2.2.1 = some (tyX7 k) := by decide +kernel
def RJ9 : String := "java/lang/Math"
abbrev cJ9_abs_0f7a4 : ByteArray := prog_10_method_59_code
def yJ9_abs_0f7a4 : MethodName := ⟨RJ9, "abs", "(I)I"⟩
abbrev cJ9_max_7cf53 : ByteArray := prog_10_method_65_code
def yJ9_max_7cf53 : MethodName := ⟨RJ9, "max", "(II)I"⟩
abbrev cJ9_min_7cf53 : ByteArray := prog_10_method_69_code
def yJ9_min_7cf53 : MethodName := ⟨RJ9, "min", "(II)I"⟩
def RJ10 : String := "java/lang/System"
def RJ7 : String := "java/util/Arrays"
abbrev cJ7_fill_53178 : ByteArray := prog_12_method_103_code
def yJ7_fill_53178 : MethodName := ⟨RJ7, "fill", "([II)V"⟩
abbrev cJ7_fill_e525d : ByteArray := prog_12_method_115_code
def yJ7_fill_e525d : MethodName := ⟨RJ7, "fill", "([FF)V"⟩
def RL : String := "PlateWritersLaw"
abbrev cL_cell : ByteArray := method_2_code
def yL_cell : MethodName := ⟨RL, "cell", "([II)I"⟩
abbrev cL_low : ByteArray := method_3_code
def yL_low : MethodName := ⟨RL, "low", "(II)I"⟩
abbrev cL_act : ByteArray := method_4_code
def yL_act : MethodName := ⟨RL, "act", "(LPlateWriters;II)I"⟩
abbrev cL_places : ByteArray := method_6_code
def yL_places : MethodName := ⟨RL, "places", "(LPlateWriters;)Z"⟩
abbrev cL_hangs : ByteArray := method_7_code
def yL_hangs : MethodName := ⟨RL, "hangs", "(LPlateWriters;)Z"⟩
abbrev cL_print : ByteArray := method_8_code
def yL_print : MethodName := ⟨RL, "print", "(LPlateWriters;)J"⟩
abbrev cL_writes : ByteArray := method_9_code
def yL_writes : MethodName := ⟨RL, "writes", "(LPlateWriters;I)Z"⟩
abbrev cL_fills : ByteArray := method_10_code
def yL_fills : MethodName := ⟨RL, "fills", "(LPlateWriters;I)Z"⟩
abbrev cL_clears : ByteArray := method_11_code
def yL_clears : MethodName := ⟨RL, "clears", "(LPlateWriters;)Z"⟩
abbrev cL_law : ByteArray := code
def yL_law : MethodName := ⟨RL, "law", "([I)Z"⟩
abbrev vwCl : List vw_C := [(RX0, TX0, 9), (RX1, TX1, 4), (RX2, TX2, 3), (RX3, TX3, 12), (RX4, TX4, 2), (RX5, TX5, 2), (RX6, TX6, 6)]

def RJ0 : String := "java/lang/String"
def RJ1 : String := "java/lang/StringLatin1"
def RJ10 : String := "java/lang/System"
def RJ2 : String := "java/lang/StringUTF16"
def RJ3 : String := "jdk/internal/util/Preconditions"
def RJ6 : String := "java/lang/Integer"
def RJ9 : String := "java/lang/Math"
def RX0 : String := "SeenLand$Land"
def TX0 : u_T := fun k => match k with
  | 0 => ("SeenLand$Land", "kinds", "[I", true)
  | 1 => ("SeenLand$Land", "heights", "[I", true)
  | 2 => ("SeenLand$Land", "ages", "[I", true)
  | 3 => ("SeenLand$Land", "tops", "[I", true)
  | 4 => ("SeenLand$Land", "homes", "[I", true)
  | 5 => ("SeenLand$Land", "floors", "[I", true)
  | 6 => ("SeenLand$Land", "opens", "[I", true)
  | 7 => ("SeenLand$Land", "spots", "[I", true)
  | 8 => ("SeenLand$Land", "houses", "I", false)
  | 9 => ("SeenLand$Land", "haze", "I", false)
  | 10 => ("SeenLand$Land", "rate", "I", false)
  | 11 => ("SeenLand$Land", "year", "I", false)
  | _ => ("SeenLand$Land", "z", "I", false)
def tyX0 : Nat → FieldType := fun k => match k with
  | 0 => .array .int
  | 1 => .array .int
  | 2 => .array .int
  | 3 => .array .int
  | 4 => .array .int
  | 5 => .array .int
  | 6 => .array .int
  | 7 => .array .int
  | 8 => .int
  | 9 => .int
  | 10 => .int
  | 11 => .int
  | _ => .int
def RX1 : String := "SeenLand$Sheets"
def TX1 : u_T := fun k => match k with
  | 0 => ("SeenLand$Sheets", "widths", "[I", true)
  | 1 => ("SeenLand$Sheets", "sizes", "[I", true)
  | _ => ("SeenLand$Sheets", "numbers", "[I", true)
def tyX1 : Nat → FieldType := fun k => match k with
  | 0 => .array .int
  | 1 => .array .int
  | _ => .array .int
def RX2 : String := "SeenLand$Tape"
def TX2 : u_T := fun k => match k with
  | 0 => ("SeenLand$Tape", "bytes", "[I", true)
  | 1 => ("SeenLand$Tape", "size", "I", false)
  | 2 => ("SeenLand$Tape", "at", "I", false)
  | 3 => ("SeenLand$Tape", "sort", "I", false)
  | 4 => ("SeenLand$Tape", "start", "I", false)
  | _ => ("SeenLand$Tape", "number", "I", false)
def tyX2 : Nat → FieldType := fun k => match k with
  | 0 => .array .int
  | 1 => .int
  | 2 => .int
  | 3 => .int
  | 4 => .int
  | _ => .int
def RX3 : String := "SeenLand$TextReader"
def TX3 : u_T := fun k => match k with
  | _ => ("SeenLand$TextReader", "tape", "LSeenLand$Tape;", true)
def tyX3 : Nat → FieldType := fun k => match k with
  | _ => .object "SeenLand$Tape"
def RX4 : String := "SeenLand"
def TX4 : u_T := fun k => match k with
  | 0 => ("SeenLand", "land", "LSeenLand$Land;", true)
  | 1 => ("SeenLand", "trial", "LSeenLand$Land;", true)
  | 2 => ("SeenLand", "kept", "LSeenLand$Land;", true)
  | 3 => ("SeenLand", "isKept", "Z", false)
  | 4 => ("SeenLand", "reader", "LSeenLand$TextReader;", true)
  | 5 => ("SeenLand", "sheets", "LSeenLand$Sheets;", true)
  | 6 => ("SeenLand", "told", "[I", true)
  | _ => ("SeenLand", "marks", "[I", true)
def tyX4 : Nat → FieldType := fun k => match k with
  | 0 => .object "SeenLand$Land"
  | 1 => .object "SeenLand$Land"
  | 2 => .object "SeenLand$Land"
  | 3 => .boolean
  | 4 => .object "SeenLand$TextReader"
  | 5 => .object "SeenLand$Sheets"
  | 6 => .array .int
  | _ => .array .int
def RX5 : String := "SeenLandModel"
def TX5 : u_T := fun k => match k with
  | 0 => ("SeenLandModel", "s", "[I", true)
  | 1 => ("SeenLandModel", "keptS", "[I", true)
  | 2 => ("SeenLandModel", "other", "[I", true)
  | 3 => ("SeenLandModel", "statuses", "[I", true)
  | 4 => ("SeenLandModel", "isKept", "Z", false)
  | 5 => ("SeenLandModel", "taxes", "[I", true)
  | 6 => ("SeenLandModel", "sights", "[I", true)
  | 7 => ("SeenLandModel", "heightMany", "I", false)
  | 8 => ("SeenLandModel", "heightLeast", "I", false)
  | 9 => ("SeenLandModel", "heightMost", "I", false)
  | 10 => ("SeenLandModel", "tape", "[I", true)
  | 11 => ("SeenLandModel", "taped", "I", false)
  | 12 => ("SeenLandModel", "from", "I", false)
  | 13 => ("SeenLandModel", "to", "I", false)
  | 14 => ("SeenLandModel", "value", "I", false)
  | 15 => ("SeenLandModel", "isWrong", "Z", false)
  | 16 => ("SeenLandModel", "bitsOf", "[I", true)
  | 17 => ("SeenLandModel", "sizeOf", "[I", true)
  | 18 => ("SeenLandModel", "number", "[I", true)
  | _ => ("SeenLandModel", "moved", "[I", true)
def tyX5 : Nat → FieldType := fun k => match k with
  | 0 => .array .int
  | 1 => .array .int
  | 2 => .array .int
  | 3 => .array .int
  | 4 => .boolean
  | 5 => .array .int
  | 6 => .array .int
  | 7 => .int
  | 8 => .int
  | 9 => .int
  | 10 => .array .int
  | 11 => .int
  | 12 => .int
  | 13 => .int
  | 14 => .int
  | 15 => .boolean
  | 16 => .array .int
  | 17 => .array .int
  | 18 => .array .int
  | _ => .array .int
abbrev cX0_init : ByteArray := prog_2_method_1_code
def yX0_init : MethodName := ⟨RX0, "<init>", "()V"⟩
abbrev cX0_takeAll : ByteArray := prog_2_method_2_code
def yX0_takeAll : MethodName := ⟨RX0, "takeAll", "(LSeenLand$Land;)V"⟩
abbrev cX0_takeCell : ByteArray := prog_2_method_3_code
def yX0_takeCell : MethodName := ⟨RX0, "takeCell", "(LSeenLand$Land;I)V"⟩
abbrev cX0_place : ByteArray := prog_2_method_4_code
def yX0_place : MethodName := ⟨RX0, "place", "(II)V"⟩
abbrev cX0_turnInto : ByteArray := prog_2_method_5_code
def yX0_turnInto : MethodName := ⟨RX0, "turnInto", "(II)V"⟩
abbrev cX0_raiseTo : ByteArray := prog_2_method_6_code
def yX0_raiseTo : MethodName := ⟨RX0, "raiseTo", "(II)V"⟩
abbrev cX0_lower : ByteArray := prog_2_method_7_code
def yX0_lower : MethodName := ⟨RX0, "lower", "(II)V"⟩
abbrev cX0_ageTo : ByteArray := prog_2_method_8_code
def yX0_ageTo : MethodName := ⟨RX0, "ageTo", "(II)V"⟩
abbrev cX0_grow : ByteArray := prog_2_method_9_code
def yX0_grow : MethodName := ⟨RX0, "grow", "(I)V"⟩
abbrev cX0_renewTop : ByteArray := prog_2_method_10_code
def yX0_renewTop : MethodName := ⟨RX0, "renewTop", "(I)V"⟩
abbrev cX0_topFor : ByteArray := prog_2_method_11_code
def yX0_topFor : MethodName := ⟨RX0, "topFor", "(III)I"⟩
abbrev cX0_worthOf : ByteArray := prog_2_method_12_code
def yX0_worthOf : MethodName := ⟨RX0, "worthOf", "(I)I"⟩
abbrev cX0_isOfKind : ByteArray := prog_2_method_13_code
def yX0_isOfKind : MethodName := ⟨RX0, "isOfKind", "(II)Z"⟩
abbrev cX0_isIn : ByteArray := prog_2_method_14_code
def yX0_isIn : MethodName := ⟨RX0, "isIn", "(II)Z"⟩
abbrev cX0_isBuiltUp : ByteArray := prog_2_method_15_code
def yX0_isBuiltUp : MethodName := ⟨RX0, "isBuiltUp", "()Z"⟩
abbrev cX0_build : ByteArray := prog_2_method_16_code
def yX0_build : MethodName := ⟨RX0, "build", "(III)V"⟩
abbrev cX0_eyeOf : ByteArray := prog_2_method_17_code
def yX0_eyeOf : MethodName := ⟨RX0, "eyeOf", "(I)I"⟩
abbrev cX0_sightOf : ByteArray := prog_2_method_18_code
def yX0_sightOf : MethodName := ⟨RX0, "sightOf", "(I)I"⟩
abbrev cX0_lookOut : ByteArray := prog_2_method_19_code
def yX0_lookOut : MethodName := ⟨RX0, "lookOut", "(II)I"⟩
abbrev cX0_hasInSight : ByteArray := prog_2_method_20_code
def yX0_hasInSight : MethodName := ⟨RX0, "hasInSight", "(II)Z"⟩
abbrev cX0_looksTowards : ByteArray := prog_2_method_21_code
def yX0_looksTowards : MethodName := ⟨RX0, "looksTowards", "(II)Z"⟩
abbrev cX0_hiderOf : ByteArray := prog_2_method_22_code
def yX0_hiderOf : MethodName := ⟨RX0, "hiderOf", "(II)I"⟩
abbrev cX0_allSight : ByteArray := prog_2_method_23_code
def yX0_allSight : MethodName := ⟨RX0, "allSight", "()I"⟩
abbrev cX0_worthSeenBy : ByteArray := prog_2_method_24_code
def yX0_worthSeenBy : MethodName := ⟨RX0, "worthSeenBy", "(I)I"⟩
abbrev cX0_taxFor : ByteArray := prog_2_method_25_code
def yX0_taxFor : MethodName := ⟨RX0, "taxFor", "(II)I"⟩
abbrev cX0_taxOf : ByteArray := prog_2_method_26_code
def yX0_taxOf : MethodName := ⟨RX0, "taxOf", "(I)I"⟩
abbrev cX0_allTax : ByteArray := prog_2_method_27_code
def yX0_allTax : MethodName := ⟨RX0, "allTax", "()I"⟩
abbrev cX0_draw : ByteArray := prog_2_method_28_code
def yX0_draw : MethodName := ⟨RX0, "draw", "()I"⟩
abbrev cX0_spotsInUse : ByteArray := prog_2_method_29_code
def yX0_spotsInUse : MethodName := ⟨RX0, "spotsInUse", "()I"⟩
abbrev cX1_init : ByteArray := prog_3_method_1_code
def yX1_init : MethodName := ⟨RX1, "<init>", "()V"⟩
abbrev cX1_isSheet : ByteArray := prog_3_method_2_code
def yX1_isSheet : MethodName := ⟨RX1, "isSheet", "(I)Z"⟩
abbrev cX1_isMissing : ByteArray := prog_3_method_3_code
def yX1_isMissing : MethodName := ⟨RX1, "isMissing", "(I)Z"⟩
abbrev cX1_make : ByteArray := prog_3_method_4_code
def yX1_make : MethodName := ⟨RX1, "make", "(III)V"⟩
abbrev cX1_hasRun : ByteArray := prog_3_method_5_code
def yX1_hasRun : MethodName := ⟨RX1, "hasRun", "(III)Z"⟩
abbrev cX1_numberAt : ByteArray := prog_3_method_6_code
def yX1_numberAt : MethodName := ⟨RX1, "numberAt", "(II)I"⟩
abbrev cX1_put : ByteArray := prog_3_method_7_code
def yX1_put : MethodName := ⟨RX1, "put", "(III)V"⟩
abbrev cX1_cutTo : ByteArray := prog_3_method_8_code
def yX1_cutTo : MethodName := ⟨RX1, "cutTo", "(II)I"⟩
abbrev cX1_move : ByteArray := prog_3_method_9_code
def yX1_move : MethodName := ⟨RX1, "move", "(IIIII)V"⟩
abbrev cX2_init : ByteArray := prog_4_method_1_code
def yX2_init : MethodName := ⟨RX2, "<init>", "()V"⟩
abbrev cX2_hasRoomFor : ByteArray := prog_4_method_2_code
def yX2_hasRoomFor : MethodName := ⟨RX2, "hasRoomFor", "(I)Z"⟩
abbrev cX2_append : ByteArray := prog_4_method_3_code
def yX2_append : MethodName := ⟨RX2, "append", "(I)V"⟩
abbrev cX2_rewind : ByteArray := prog_4_method_4_code
def yX2_rewind : MethodName := ⟨RX2, "rewind", "()V"⟩
abbrev cX2_step : ByteArray := prog_4_method_5_code
def yX2_step : MethodName := ⟨RX2, "step", "()V"⟩
abbrev cX2_takeDigit : ByteArray := prog_4_method_6_code
def yX2_takeDigit : MethodName := ⟨RX2, "takeDigit", "(I)V"⟩
abbrev cX2_sortAt : ByteArray := prog_4_method_7_code
def yX2_sortAt : MethodName := ⟨RX2, "sortAt", "(I)I"⟩
abbrev cX2_isWord : ByteArray := prog_4_method_8_code
def yX2_isWord : MethodName := ⟨RX2, "isWord", "(Ljava/lang/String;)Z"⟩
abbrev cX3_init : ByteArray := prog_5_method_1_code
def yX3_init : MethodName := ⟨RX3, "<init>", "()V"⟩
abbrev cX3_readInto : ByteArray := prog_5_method_2_code
def yX3_readInto : MethodName := ⟨RX3, "readInto", "(LSeenLand$Land;)I"⟩
abbrev cX3_faultHere : ByteArray := prog_5_method_3_code
def yX3_faultHere : MethodName := ⟨RX3, "faultHere", "()I"⟩
abbrev cX3_readItem : ByteArray := prog_5_method_4_code
def yX3_readItem : MethodName := ⟨RX3, "readItem", "(LSeenLand$Land;)Z"⟩
abbrev cX3_readKind : ByteArray := prog_5_method_5_code
def yX3_readKind : MethodName := ⟨RX3, "readKind", "()I"⟩
abbrev cX3_readThing : ByteArray := prog_5_method_6_code
def yX3_readThing : MethodName := ⟨RX3, "readThing", "(LSeenLand$Land;I)Z"⟩
abbrev cX3_readHouse : ByteArray := prog_5_method_7_code
def yX3_readHouse : MethodName := ⟨RX3, "readHouse", "(LSeenLand$Land;)Z"⟩
abbrev cX3_readHaze : ByteArray := prog_5_method_8_code
def yX3_readHaze : MethodName := ⟨RX3, "readHaze", "(LSeenLand$Land;)Z"⟩
abbrev cX3_readRate : ByteArray := prog_5_method_9_code
def yX3_readRate : MethodName := ⟨RX3, "readRate", "(LSeenLand$Land;)Z"⟩
abbrev cX3_passes : ByteArray := prog_5_method_10_code
def yX3_passes : MethodName := ⟨RX3, "passes", "(Ljava/lang/String;)Z"⟩
abbrev cX3_readNumber : ByteArray := prog_5_method_11_code
def yX3_readNumber : MethodName := ⟨RX3, "readNumber", "(II)I"⟩
abbrev cX4_init : ByteArray := prog_1_method_1_code
def yX4_init : MethodName := ⟨RX4, "<init>", "()V"⟩
abbrev cX4_cell : ByteArray := prog_1_method_2_code
def yX4_cell : MethodName := ⟨RX4, "cell", "(III)I"⟩
abbrev cX4_set : ByteArray := prog_1_method_3_code
def yX4_set : MethodName := ⟨RX4, "set", "(II)I"⟩
abbrev cX4_cellOf : ByteArray := prog_1_method_4_code
def yX4_cellOf : MethodName := ⟨RX4, "cellOf", "(II)I"⟩
abbrev cX4_house : ByteArray := prog_1_method_5_code
def yX4_house : MethodName := ⟨RX4, "house", "(II)I"⟩
abbrev cX4_houseOf : ByteArray := prog_1_method_6_code
def yX4_houseOf : MethodName := ⟨RX4, "houseOf", "(II)I"⟩
abbrev cX4_floor : ByteArray := prog_1_method_7_code
def yX4_floor : MethodName := ⟨RX4, "floor", "(II)I"⟩
abbrev cX4_windows : ByteArray := prog_1_method_8_code
def yX4_windows : MethodName := ⟨RX4, "windows", "(II)I"⟩
abbrev cX4_law : ByteArray := prog_1_method_9_code
def yX4_law : MethodName := ⟨RX4, "law", "(II)I"⟩
abbrev cX4_dig : ByteArray := prog_1_method_10_code
def yX4_dig : MethodName := ⟨RX4, "dig", "(III)I"⟩
abbrev cX4_drain : ByteArray := prog_1_method_11_code
def yX4_drain : MethodName := ⟨RX4, "drain", "(I)I"⟩
abbrev cX4_sight : ByteArray := prog_1_method_12_code
def yX4_sight : MethodName := ⟨RX4, "sight", "(I)I"⟩
abbrev cX4_sees : ByteArray := prog_1_method_13_code
def yX4_sees : MethodName := ⟨RX4, "sees", "(II)I"⟩
abbrev cX4_seenBy : ByteArray := prog_1_method_14_code
def yX4_seenBy : MethodName := ⟨RX4, "seenBy", "(I)I"⟩
abbrev cX4_neighbours : ByteArray := prog_1_method_15_code
def yX4_neighbours : MethodName := ⟨RX4, "neighbours", "(I)I"⟩
abbrev cX4_hidden : ByteArray := prog_1_method_16_code
def yX4_hidden : MethodName := ⟨RX4, "hidden", "(II)I"⟩
abbrev cX4_tax : ByteArray := prog_1_method_17_code
def yX4_tax : MethodName := ⟨RX4, "tax", "(I)I"⟩
abbrev cX4_all : ByteArray := prog_1_method_18_code
def yX4_all : MethodName := ⟨RX4, "all", "()I"⟩
abbrev cX4_cheapest : ByteArray := prog_1_method_19_code
def yX4_cheapest : MethodName := ⟨RX4, "cheapest", "(I)I"⟩
abbrev cX4_widest : ByteArray := prog_1_method_20_code
def yX4_widest : MethodName := ⟨RX4, "widest", "(I)I"⟩
abbrev cX4_wall : ByteArray := prog_1_method_21_code
def yX4_wall : MethodName := ⟨RX4, "wall", "(II)I"⟩
abbrev cX4_rateFor : ByteArray := prog_1_method_22_code
def yX4_rateFor : MethodName := ⟨RX4, "rateFor", "(I)I"⟩
abbrev cX4_shade : ByteArray := prog_1_method_23_code
def yX4_shade : MethodName := ⟨RX4, "shade", "(III)I"⟩
abbrev cX4_gains : ByteArray := prog_1_method_24_code
def yX4_gains : MethodName := ⟨RX4, "gains", "(III)I"⟩
abbrev cX4_plant : ByteArray := prog_1_method_25_code
def yX4_plant : MethodName := ⟨RX4, "plant", "(I)I"⟩
abbrev cX4_two : ByteArray := prog_1_method_26_code
def yX4_two : MethodName := ⟨RX4, "two", "(I)I"⟩
abbrev cX4_restless : ByteArray := prog_1_method_27_code
def yX4_restless : MethodName := ⟨RX4, "restless", "()I"⟩
abbrev cX4_walk : ByteArray := prog_1_method_28_code
def yX4_walk : MethodName := ⟨RX4, "walk", "()I"⟩
abbrev cX4_blind : ByteArray := prog_1_method_29_code
def yX4_blind : MethodName := ⟨RX4, "blind", "()I"⟩
abbrev cX4_heights : ByteArray := prog_1_method_30_code
def yX4_heights : MethodName := ⟨RX4, "heights", "(III)I"⟩
abbrev cX4_height : ByteArray := prog_1_method_31_code
def yX4_height : MethodName := ⟨RX4, "height", "(IIII)I"⟩
abbrev cX4_which : ByteArray := prog_1_method_32_code
def yX4_which : MethodName := ⟨RX4, "which", "(II)I"⟩
abbrev cX4_years : ByteArray := prog_1_method_33_code
def yX4_years : MethodName := ⟨RX4, "years", "(I)I"⟩
abbrev cX4_ahead : ByteArray := prog_1_method_34_code
def yX4_ahead : MethodName := ⟨RX4, "ahead", "(II)I"⟩
abbrev cX4_lost : ByteArray := prog_1_method_35_code
def yX4_lost : MethodName := ⟨RX4, "lost", "(II)I"⟩
abbrev cX4_when : ByteArray := prog_1_method_36_code
def yX4_when : MethodName := ⟨RX4, "when", "(I)I"⟩
abbrev cX4_quake : ByteArray := prog_1_method_37_code
def yX4_quake : MethodName := ⟨RX4, "quake", "(I)I"⟩
abbrev cX4_seed : ByteArray := prog_1_method_38_code
def yX4_seed : MethodName := ⟨RX4, "seed", "(I)I"⟩
abbrev cX4_feed : ByteArray := prog_1_method_39_code
def yX4_feed : MethodName := ⟨RX4, "feed", "(II)I"⟩
abbrev cX4_wipe : ByteArray := prog_1_method_40_code
def yX4_wipe : MethodName := ⟨RX4, "wipe", "()I"⟩
abbrev cX4_text : ByteArray := prog_1_method_41_code
def yX4_text : MethodName := ⟨RX4, "text", "()I"⟩
abbrev cX4_hold : ByteArray := prog_1_method_42_code
def yX4_hold : MethodName := ⟨RX4, "hold", "(II)I"⟩
abbrev cX4_as : ByteArray := prog_1_method_43_code
def yX4_as : MethodName := ⟨RX4, "as", "(II)I"⟩
abbrev cX4_sheet : ByteArray := prog_1_method_44_code
def yX4_sheet : MethodName := ⟨RX4, "sheet", "(III)I"⟩
abbrev cX4_write : ByteArray := prog_1_method_45_code
def yX4_write : MethodName := ⟨RX4, "write", "(III)I"⟩
abbrev cX4_copy : ByteArray := prog_1_method_46_code
def yX4_copy : MethodName := ⟨RX4, "copy", "(IIIII)I"⟩
abbrev cX4_load : ByteArray := prog_1_method_47_code
def yX4_load : MethodName := ⟨RX4, "load", "(II)I"⟩
abbrev cX4_judge : ByteArray := prog_1_method_48_code
def yX4_judge : MethodName := ⟨RX4, "judge", "(II)I"⟩
abbrev cX4_image : ByteArray := prog_1_method_49_code
def yX4_image : MethodName := ⟨RX4, "image", "()I"⟩
abbrev cX4_undo : ByteArray := prog_1_method_50_code
def yX4_undo : MethodName := ⟨RX4, "undo", "()I"⟩
abbrev cX4_tear : ByteArray := prog_1_method_51_code
def yX4_tear : MethodName := ⟨RX4, "tear", "()I"⟩
abbrev cX4_count : ByteArray := prog_1_method_52_code
def yX4_count : MethodName := ⟨RX4, "count", "(I)I"⟩
abbrev cX4_status : ByteArray := prog_1_method_53_code
def yX4_status : MethodName := ⟨RX4, "status", "(I)I"⟩
abbrev cX4_tell : ByteArray := prog_1_method_54_code
def yX4_tell : MethodName := ⟨RX4, "tell", "(I)I"⟩
abbrev cX4_isWithin : ByteArray := prog_1_method_55_code
def yX4_isWithin : MethodName := ⟨RX4, "isWithin", "(III)Z"⟩
abbrev cX4_isCell : ByteArray := prog_1_method_56_code
def yX4_isCell : MethodName := ⟨RX4, "isCell", "(I)Z"⟩
abbrev cX4_isKind : ByteArray := prog_1_method_57_code
def yX4_isKind : MethodName := ⟨RX4, "isKind", "(I)Z"⟩
abbrev cX4_isFloor : ByteArray := prog_1_method_58_code
def yX4_isFloor : MethodName := ⟨RX4, "isFloor", "(I)Z"⟩
abbrev cX4_isSpot : ByteArray := prog_1_method_59_code
def yX4_isSpot : MethodName := ⟨RX4, "isSpot", "(I)Z"⟩
abbrev cX4_isSpan : ByteArray := prog_1_method_60_code
def yX4_isSpan : MethodName := ⟨RX4, "isSpan", "(I)Z"⟩
abbrev cX4_isTaxAsked : ByteArray := prog_1_method_61_code
def yX4_isTaxAsked : MethodName := ⟨RX4, "isTaxAsked", "(I)Z"⟩
abbrev cX4_isHouse : ByteArray := prog_1_method_62_code
def yX4_isHouse : MethodName := ⟨RX4, "isHouse", "(I)Z"⟩
abbrev cX4_isTooLate : ByteArray := prog_1_method_63_code
def yX4_isTooLate : MethodName := ⟨RX4, "isTooLate", "(I)Z"⟩
abbrev cX4_tryYears : ByteArray := prog_1_method_64_code
def yX4_tryYears : MethodName := ⟨RX4, "tryYears", "(I)V"⟩
abbrev cX4_tryThing : ByteArray := prog_1_method_65_code
def yX4_tryThing : MethodName := ⟨RX4, "tryThing", "(III)V"⟩
abbrev cX4_thriftyFloor : ByteArray := prog_1_method_66_code
def yX4_thriftyFloor : MethodName := ⟨RX4, "thriftyFloor", "(I)I"⟩
abbrev cX4_sightsOf : ByteArray := prog_1_method_67_code
def yX4_sightsOf : MethodName := ⟨RX4, "sightsOf", "(I)I"⟩
abbrev cX5_init : ByteArray := prog_7_method_1_code
def yX5_init : MethodName := ⟨RX5, "<init>", "()V"⟩
abbrev cX5_in : ByteArray := prog_7_method_2_code
def yX5_in : MethodName := ⟨RX5, "in", "(JJJ)Z"⟩
abbrev cX5_finds : ByteArray := prog_7_method_3_code
def yX5_finds : MethodName := ⟨RX5, "finds", "(I)I"⟩
abbrev cX5_isCell : ByteArray := prog_7_method_4_code
def yX5_isCell : MethodName := ⟨RX5, "isCell", "(I)Z"⟩
abbrev cX5_isKind : ByteArray := prog_7_method_5_code
def yX5_isKind : MethodName := ⟨RX5, "isKind", "(I)Z"⟩
abbrev cX5_isFloor : ByteArray := prog_7_method_6_code
def yX5_isFloor : MethodName := ⟨RX5, "isFloor", "(I)Z"⟩
abbrev cX5_isAhead : ByteArray := prog_7_method_7_code
def yX5_isAhead : MethodName := ⟨RX5, "isAhead", "(I)Z"⟩
abbrev cX5_isTax : ByteArray := prog_7_method_8_code
def yX5_isTax : MethodName := ⟨RX5, "isTax", "(I)Z"⟩
abbrev cX5_isHouse : ByteArray := prog_7_method_9_code
def yX5_isHouse : MethodName := ⟨RX5, "isHouse", "(I)Z"⟩
abbrev cX5_isStretch : ByteArray := prog_7_method_10_code
def yX5_isStretch : MethodName := ⟨RX5, "isStretch", "(II)Z"⟩
abbrev cX5_has : ByteArray := prog_7_method_11_code
def yX5_has : MethodName := ⟨RX5, "has", "(II)Z"⟩
abbrev cX5_ones : ByteArray := prog_7_method_12_code
def yX5_ones : MethodName := ⟨RX5, "ones", "(I)I"⟩
abbrev cX5_size : ByteArray := prog_7_method_13_code
def yX5_size : MethodName := ⟨RX5, "size", "(I)I"⟩
abbrev cX5_next : ByteArray := prog_7_method_14_code
def yX5_next : MethodName := ⟨RX5, "next", "()I"⟩
abbrev cX5_puts : ByteArray := prog_7_method_15_code
def yX5_puts : MethodName := ⟨RX5, "puts", "()V"⟩
abbrev cX5_putsBack : ByteArray := prog_7_method_16_code
def yX5_putsBack : MethodName := ⟨RX5, "putsBack", "()V"⟩
abbrev cX5_kindOf : ByteArray := prog_7_method_17_code
def yX5_kindOf : MethodName := ⟨RX5, "kindOf", "(I)I"⟩
abbrev cX5_heightOf : ByteArray := prog_7_method_18_code
def yX5_heightOf : MethodName := ⟨RX5, "heightOf", "(I)I"⟩
abbrev cX5_ageOf : ByteArray := prog_7_method_19_code
def yX5_ageOf : MethodName := ⟨RX5, "ageOf", "(I)I"⟩
abbrev cX5_top : ByteArray := prog_7_method_20_code
def yX5_top : MethodName := ⟨RX5, "top", "(I)I"⟩
abbrev cX5_worth : ByteArray := prog_7_method_21_code
def yX5_worth : MethodName := ⟨RX5, "worth", "(I)I"⟩
abbrev cX5_cell : ByteArray := prog_7_method_22_code
def yX5_cell : MethodName := ⟨RX5, "cell", "(III)I"⟩
abbrev cX5_sets : ByteArray := prog_7_method_23_code
def yX5_sets : MethodName := ⟨RX5, "sets", "(II)V"⟩
abbrev cX5_set : ByteArray := prog_7_method_24_code
def yX5_set : MethodName := ⟨RX5, "set", "(II)I"⟩
abbrev cX5_cellOf : ByteArray := prog_7_method_25_code
def yX5_cellOf : MethodName := ⟨RX5, "cellOf", "(II)I"⟩
abbrev cX5_cellAt : ByteArray := prog_7_method_26_code
def yX5_cellAt : MethodName := ⟨RX5, "cellAt", "(I)I"⟩
abbrev cX5_openOf : ByteArray := prog_7_method_27_code
def yX5_openOf : MethodName := ⟨RX5, "openOf", "(I)I"⟩
abbrev cX5_eye : ByteArray := prog_7_method_28_code
def yX5_eye : MethodName := ⟨RX5, "eye", "(I)I"⟩
abbrev cX5_newHouse : ByteArray := prog_7_method_29_code
def yX5_newHouse : MethodName := ⟨RX5, "newHouse", "(III)I"⟩
abbrev cX5_house : ByteArray := prog_7_method_30_code
def yX5_house : MethodName := ⟨RX5, "house", "(II)I"⟩
abbrev cX5_houseOf : ByteArray := prog_7_method_31_code
def yX5_houseOf : MethodName := ⟨RX5, "houseOf", "(II)I"⟩
abbrev cX5_floor : ByteArray := prog_7_method_32_code
def yX5_floor : MethodName := ⟨RX5, "floor", "(II)I"⟩
abbrev cX5_windows : ByteArray := prog_7_method_33_code
def yX5_windows : MethodName := ⟨RX5, "windows", "(II)I"⟩
abbrev cX5_law : ByteArray := prog_7_method_34_code
def yX5_law : MethodName := ⟨RX5, "law", "(II)I"⟩
abbrev cX5_lowers : ByteArray := prog_7_method_35_code
def yX5_lowers : MethodName := ⟨RX5, "lowers", "(II)V"⟩
abbrev cX5_dig : ByteArray := prog_7_method_36_code
def yX5_dig : MethodName := ⟨RX5, "dig", "(III)I"⟩
abbrev cX5_drain : ByteArray := prog_7_method_37_code
def yX5_drain : MethodName := ⟨RX5, "drain", "(I)I"⟩
abbrev cX5_isHiding : ByteArray := prog_7_method_38_code
def yX5_isHiding : MethodName := ⟨RX5, "isHiding", "(III)Z"⟩
abbrev cX5_isTowards : ByteArray := prog_7_method_39_code
def yX5_isTowards : MethodName := ⟨RX5, "isTowards", "(II)Z"⟩
abbrev cX5_hider : ByteArray := prog_7_method_40_code
def yX5_hider : MethodName := ⟨RX5, "hider", "(II)I"⟩
abbrev cX5_sightOf : ByteArray := prog_7_method_41_code
def yX5_sightOf : MethodName := ⟨RX5, "sightOf", "(I)I"⟩
abbrev cX5_sight : ByteArray := prog_7_method_42_code
def yX5_sight : MethodName := ⟨RX5, "sight", "(I)I"⟩
abbrev cX5_sees : ByteArray := prog_7_method_43_code
def yX5_sees : MethodName := ⟨RX5, "sees", "(II)I"⟩
abbrev cX5_seenBy : ByteArray := prog_7_method_44_code
def yX5_seenBy : MethodName := ⟨RX5, "seenBy", "(I)I"⟩
abbrev cX5_neighbours : ByteArray := prog_7_method_45_code
def yX5_neighbours : MethodName := ⟨RX5, "neighbours", "(I)I"⟩
abbrev cX5_hidden : ByteArray := prog_7_method_46_code
def yX5_hidden : MethodName := ⟨RX5, "hidden", "(II)I"⟩
abbrev cX5_taxOf : ByteArray := prog_7_method_47_code
def yX5_taxOf : MethodName := ⟨RX5, "taxOf", "(I)I"⟩
abbrev cX5_allTax : ByteArray := prog_7_method_48_code
def yX5_allTax : MethodName := ⟨RX5, "allTax", "()I"⟩
abbrev cX5_tax : ByteArray := prog_7_method_49_code
def yX5_tax : MethodName := ⟨RX5, "tax", "(I)I"⟩
abbrev cX5_all : ByteArray := prog_7_method_50_code
def yX5_all : MethodName := ⟨RX5, "all", "()I"⟩
abbrev cX5_leastFloor : ByteArray := prog_7_method_51_code
def yX5_leastFloor : MethodName := ⟨RX5, "leastFloor", "(I)I"⟩
abbrev cX5_cheapest : ByteArray := prog_7_method_52_code
def yX5_cheapest : MethodName := ⟨RX5, "cheapest", "(I)I"⟩
abbrev cX5_widest : ByteArray := prog_7_method_53_code
def yX5_widest : MethodName := ⟨RX5, "widest", "(I)I"⟩
abbrev cX5_wall : ByteArray := prog_7_method_54_code
def yX5_wall : MethodName := ⟨RX5, "wall", "(II)I"⟩
abbrev cX5_rateFor : ByteArray := prog_7_method_55_code
def yX5_rateFor : MethodName := ⟨RX5, "rateFor", "(I)I"⟩
abbrev cX5_year : ByteArray := prog_7_method_56_code
def yX5_year : MethodName := ⟨RX5, "year", "()V"⟩
abbrev cX5_yearsGo : ByteArray := prog_7_method_57_code
def yX5_yearsGo : MethodName := ⟨RX5, "yearsGo", "(I)V"⟩
abbrev cX5_isTooFar : ByteArray := prog_7_method_58_code
def yX5_isTooFar : MethodName := ⟨RX5, "isTooFar", "(I)Z"⟩
abbrev cX5_shade : ByteArray := prog_7_method_59_code
def yX5_shade : MethodName := ⟨RX5, "shade", "(III)I"⟩
abbrev cX5_gains : ByteArray := prog_7_method_60_code
def yX5_gains : MethodName := ⟨RX5, "gains", "(III)I"⟩
abbrev cX5_plant : ByteArray := prog_7_method_61_code
def yX5_plant : MethodName := ⟨RX5, "plant", "(I)I"⟩
abbrev cX5_two : ByteArray := prog_7_method_62_code
def yX5_two : MethodName := ⟨RX5, "two", "(I)I"⟩
abbrev cX5_restless : ByteArray := prog_7_method_63_code
def yX5_restless : MethodName := ⟨RX5, "restless", "()I"⟩
abbrev cX5_findSights : ByteArray := prog_7_method_64_code
def yX5_findSights : MethodName := ⟨RX5, "findSights", "()I"⟩
abbrev cX5_walk : ByteArray := prog_7_method_65_code
def yX5_walk : MethodName := ⟨RX5, "walk", "()I"⟩
abbrev cX5_blind : ByteArray := prog_7_method_66_code
def yX5_blind : MethodName := ⟨RX5, "blind", "()I"⟩
abbrev cX5_findHeights : ByteArray := prog_7_method_67_code
def yX5_findHeights : MethodName := ⟨RX5, "findHeights", "(III)V"⟩
abbrev cX5_heights : ByteArray := prog_7_method_68_code
def yX5_heights : MethodName := ⟨RX5, "heights", "(III)I"⟩
abbrev cX5_height : ByteArray := prog_7_method_69_code
def yX5_height : MethodName := ⟨RX5, "height", "(IIII)I"⟩
abbrev cX5_which : ByteArray := prog_7_method_70_code
def yX5_which : MethodName := ⟨RX5, "which", "(II)I"⟩
abbrev cX5_years : ByteArray := prog_7_method_71_code
def yX5_years : MethodName := ⟨RX5, "years", "(I)I"⟩
abbrev cX5_ahead : ByteArray := prog_7_method_72_code
def yX5_ahead : MethodName := ⟨RX5, "ahead", "(II)I"⟩
abbrev cX5_lost : ByteArray := prog_7_method_73_code
def yX5_lost : MethodName := ⟨RX5, "lost", "(II)I"⟩
abbrev cX5_when : ByteArray := prog_7_method_74_code
def yX5_when : MethodName := ⟨RX5, "when", "(I)I"⟩
abbrev cX5_quake : ByteArray := prog_7_method_75_code
def yX5_quake : MethodName := ⟨RX5, "quake", "(I)I"⟩
abbrev cX5_seed : ByteArray := prog_7_method_76_code
def yX5_seed : MethodName := ⟨RX5, "seed", "(I)I"⟩
abbrev cX5_feed : ByteArray := prog_7_method_77_code
def yX5_feed : MethodName := ⟨RX5, "feed", "(II)I"⟩
abbrev cX5_wipe : ByteArray := prog_7_method_78_code
def yX5_wipe : MethodName := ⟨RX5, "wipe", "()I"⟩
abbrev cX5_byteAt : ByteArray := prog_7_method_79_code
def yX5_byteAt : MethodName := ⟨RX5, "byteAt", "(I)I"⟩
abbrev cX5_isLetter : ByteArray := prog_7_method_80_code
def yX5_isLetter : MethodName := ⟨RX5, "isLetter", "(I)Z"⟩
abbrev cX5_isDigit : ByteArray := prog_7_method_81_code
def yX5_isDigit : MethodName := ⟨RX5, "isDigit", "(I)Z"⟩
abbrev cX5_token : ByteArray := prog_7_method_82_code
def yX5_token : MethodName := ⟨RX5, "token", "()V"⟩
abbrev cX5_needs : ByteArray := prog_7_method_83_code
def yX5_needs : MethodName := ⟨RX5, "needs", "(Z)V"⟩
abbrev cX5_word : ByteArray := prog_7_method_84_code
def yX5_word : MethodName := ⟨RX5, "word", "()J"⟩
abbrev cX5_number : ByteArray := prog_7_method_85_code
def yX5_number : MethodName := ⟨RX5, "number", "(II)V"⟩
abbrev cX5_kindHere : ByteArray := prog_7_method_86_code
def yX5_kindHere : MethodName := ⟨RX5, "kindHere", "()I"⟩
abbrev cX5_perhaps : ByteArray := prog_7_method_87_code
def yX5_perhaps : MethodName := ⟨RX5, "perhaps", "(ZIII)I"⟩
abbrev cX5_cellItem : ByteArray := prog_7_method_88_code
def yX5_cellItem : MethodName := ⟨RX5, "cellItem", "(I)V"⟩
abbrev cX5_houseItem : ByteArray := prog_7_method_89_code
def yX5_houseItem : MethodName := ⟨RX5, "houseItem", "()V"⟩
abbrev cX5_item : ByteArray := prog_7_method_90_code
def yX5_item : MethodName := ⟨RX5, "item", "()V"⟩
abbrev cX5_text : ByteArray := prog_7_method_91_code
def yX5_text : MethodName := ⟨RX5, "text", "()I"⟩
abbrev cX5_hold : ByteArray := prog_7_method_92_code
def yX5_hold : MethodName := ⟨RX5, "hold", "(II)I"⟩
abbrev cX5_as : ByteArray := prog_7_method_93_code
def yX5_as : MethodName := ⟨RX5, "as", "(II)I"⟩
abbrev cX5_isOne : ByteArray := prog_7_method_94_code
def yX5_isOne : MethodName := ⟨RX5, "isOne", "(I)Z"⟩
abbrev cX5_sheet : ByteArray := prog_7_method_95_code
def yX5_sheet : MethodName := ⟨RX5, "sheet", "(III)I"⟩
abbrev cX5_narrowed : ByteArray := prog_7_method_96_code
def yX5_narrowed : MethodName := ⟨RX5, "narrowed", "(II)I"⟩
abbrev cX5_wrong : ByteArray := prog_7_method_97_code
def yX5_wrong : MethodName := ⟨RX5, "wrong", "(I)I"⟩
abbrev cX5_write : ByteArray := prog_7_method_98_code
def yX5_write : MethodName := ⟨RX5, "write", "(III)I"⟩
abbrev cX5_copy : ByteArray := prog_7_method_99_code
def yX5_copy : MethodName := ⟨RX5, "copy", "(IIIII)I"⟩
abbrev cX5_load : ByteArray := prog_7_method_100_code
def yX5_load : MethodName := ⟨RX5, "load", "(II)I"⟩
abbrev cX5_judge : ByteArray := prog_7_method_101_code
def yX5_judge : MethodName := ⟨RX5, "judge", "(II)I"⟩
abbrev cX5_image : ByteArray := prog_7_method_102_code
def yX5_image : MethodName := ⟨RX5, "image", "()I"⟩
abbrev cX5_undo : ByteArray := prog_7_method_103_code
def yX5_undo : MethodName := ⟨RX5, "undo", "()I"⟩
abbrev cX5_tear : ByteArray := prog_7_method_104_code
def yX5_tear : MethodName := ⟨RX5, "tear", "()I"⟩
abbrev cX5_count : ByteArray := prog_7_method_105_code
def yX5_count : MethodName := ⟨RX5, "count", "(I)I"⟩
abbrev cX5_status : ByteArray := prog_7_method_106_code
def yX5_status : MethodName := ⟨RX5, "status", "(I)I"⟩
abbrev cJ6_bitCount_0f7a4 : ByteArray := prog_8_method_49_code
def yJ6_bitCount_0f7a4 : MethodName := ⟨RJ6, "bitCount", "(I)I"⟩
abbrev cJ9_abs_0f7a4 : ByteArray := prog_9_method_59_code
def yJ9_abs_0f7a4 : MethodName := ⟨RJ9, "abs", "(I)I"⟩
abbrev cJ9_max_7cf53 : ByteArray := prog_9_method_65_code
def yJ9_max_7cf53 : MethodName := ⟨RJ9, "max", "(II)I"⟩
abbrev cJ9_min_7cf53 : ByteArray := prog_9_method_69_code
def yJ9_min_7cf53 : MethodName := ⟨RJ9, "min", "(II)I"⟩
abbrev cJ0_length_8abf5 : ByteArray := prog_10_method_54_code
def yJ0_length_8abf5 : MethodName := ⟨RJ0, "length", "()I"⟩
abbrev cJ0_charAt_5068e : ByteArray := prog_10_method_56_code
def yJ0_charAt_5068e : MethodName := ⟨RJ0, "charAt", "(I)C"⟩
abbrev cJ0_coder_7d493 : ByteArray := prog_10_method_152_code
def yJ0_coder_7d493 : MethodName := ⟨RJ0, "coder", "()B"⟩
abbrev cJ0_isLatin1_aae02 : ByteArray := prog_10_method_154_code
def yJ0_isLatin1_aae02 : MethodName := ⟨RJ0, "isLatin1", "()Z"⟩
abbrev cJ0_checkIndex_df160 : ByteArray := prog_10_method_155_code
def yJ0_checkIndex_df160 : MethodName := ⟨RJ0, "checkIndex", "(II)V"⟩
abbrev cJ1_charAt_3b067 : ByteArray := prog_11_method_2_code
def yJ1_charAt_3b067 : MethodName := ⟨RJ1, "charAt", "([BI)C"⟩
abbrev cJ2_getChar_3b067 : ByteArray := prog_12_method_5_code
def yJ2_getChar_3b067 : MethodName := ⟨RJ2, "getChar", "([BI)C"⟩
abbrev cJ2_length_9d52b : ByteArray := prog_12_method_6_code
def yJ2_length_9d52b : MethodName := ⟨RJ2, "length", "([B)I"⟩
abbrev cJ2_charAt_3b067 : ByteArray := prog_12_method_83_code
def yJ2_charAt_3b067 : MethodName := ⟨RJ2, "charAt", "([BI)C"⟩
abbrev cJ2_checkIndex_2214a : ByteArray := prog_12_method_91_code
def yJ2_checkIndex_2214a : MethodName := ⟨RJ2, "checkIndex", "(I[B)V"⟩
abbrev cJ3_checkIndex_8e157 : ByteArray := prog_14_method_11_code
def yJ3_checkIndex_8e157 : MethodName := ⟨RJ3, "checkIndex", "(IILjava/util/function/BiFunction;)I"⟩
abbrev sl_cl : List vw_C := [(RX0, TX0, 13), (RX1, TX1, 3), (RX2, TX2, 6), (RX3, TX3, 1), (RX4, TX4, 8), (RX5, TX5, 20)]
def LX : List sl_E := [.inr (0, [some 1, some 2, some 3, some 4, some 5, some 6, some 7, some 8, none, none, none, none, none]), .inl 24, .inl 24, .inl 24, .inl 24, .inl 8, .inl 8, .inl 8, .inl 10, .inr (0, [some 10, some 11, some 12, some 13, some 14, some 15, some 16, some 17, none, none, none, none, none]), .inl 24, .inl 24, .inl 24, .inl 24, .inl 8, .inl 8, .inl 8, .inl 10, .inr (0, [some 19, some 20, some 21, some 22, some 23, some 24, some 25, some 26, none, none, none, none, none]), .inl 24, .inl 24, .inl 24, .inl 24, .inl 8, .inl 8, .inl 8, .inl 10, .inr (4, [some 0, some 9, some 18, none, some 30, some 31, some 35, some 36]), .inr (2, [some 29, none, none, none, none, none]), .inl 120, .inr (3, [some 28]), .inr (1, [some 32, some 33, some 34]), .inl 4, .inl 4, .inl 160, .inl 7, .inl 8]
def LR : List sl_E := [.inr (5, [some 1, some 2, some 3, some 4, none, some 5, some 6, none, none, none, some 7, none, none, none, none, none, some 8, some 9, some 10, some 11]), .inl 111, .inl 111, .inl 111, .inl 7, .inl 8, .inl 8, .inl 120, .inl 4, .inl 4, .inl 160, .inl 40]
theorem lx_0 : LX[0]? = some (.inr (0, [some 1, some 2, some 3, some 4, some 5, some 6, some 7, some 8, none, none, none, none, none])) := rfl
theorem lx_1 : LX[1]? = some (.inl 24) := rfl
theorem lx_2 : LX[2]? = some (.inl 24) := rfl
theorem lx_3 : LX[3]? = some (.inl 24) := rfl
theorem lx_4 : LX[4]? = some (.inl 24) := rfl
theorem lx_5 : LX[5]? = some (.inl 8) := rfl
theorem lx_6 : LX[6]? = some (.inl 8) := rfl
theorem lx_7 : LX[7]? = some (.inl 8) := rfl
theorem lx_8 : LX[8]? = some (.inl 10) := rfl
theorem lx_9 : LX[9]? = some (.inr (0, [some 10, some 11, some 12, some 13, some 14, some 15, some 16, some 17, none, none, none, none, none])) := rfl
theorem lx_10 : LX[10]? = some (.inl 24) := rfl
theorem lx_11 : LX[11]? = some (.inl 24) := rfl
theorem lx_12 : LX[12]? = some (.inl 24) := rfl
theorem lx_13 : LX[13]? = some (.inl 24) := rfl
theorem lx_14 : LX[14]? = some (.inl 8) := rfl
theorem lx_15 : LX[15]? = some (.inl 8) := rfl
theorem lx_16 : LX[16]? = some (.inl 8) := rfl
theorem lx_17 : LX[17]? = some (.inl 10) := rfl
theorem lx_18 : LX[18]? = some (.inr (0, [some 19, some 20, some 21, some 22, some 23, some 24, some 25, some 26, none, none, none, none, none])) := rfl
theorem lx_19 : LX[19]? = some (.inl 24) := rfl
theorem lx_20 : LX[20]? = some (.inl 24) := rfl
theorem lx_21 : LX[21]? = some (.inl 24) := rfl
theorem lx_22 : LX[22]? = some (.inl 24) := rfl
theorem lx_23 : LX[23]? = some (.inl 8) := rfl
theorem lx_24 : LX[24]? = some (.inl 8) := rfl
theorem lx_25 : LX[25]? = some (.inl 8) := rfl
theorem lx_26 : LX[26]? = some (.inl 10) := rfl
theorem lx_27 : LX[27]? = some (.inr (4, [some 0, some 9, some 18, none, some 30, some 31, some 35, some 36])) := rfl
theorem lx_28 : LX[28]? = some (.inr (2, [some 29, none, none, none, none, none])) := rfl
theorem lx_29 : LX[29]? = some (.inl 120) := rfl
theorem lx_30 : LX[30]? = some (.inr (3, [some 28])) := rfl
theorem lx_31 : LX[31]? = some (.inr (1, [some 32, some 33, some 34])) := rfl
theorem lx_32 : LX[32]? = some (.inl 4) := rfl
theorem lx_33 : LX[33]? = some (.inl 4) := rfl
theorem lx_34 : LX[34]? = some (.inl 160) := rfl
theorem lx_35 : LX[35]? = some (.inl 7) := rfl
theorem lx_36 : LX[36]? = some (.inl 8) := rfl
theorem lr_0 : LR[0]? = some (.inr (5, [some 1, some 2, some 3, some 4, none, some 5, some 6, none, none, none, some 7, none, none, none, none, none, some 8, some 9, some 10, some 11])) := rfl
theorem lr_1 : LR[1]? = some (.inl 111) := rfl
theorem lr_2 : LR[2]? = some (.inl 111) := rfl
theorem lr_3 : LR[3]? = some (.inl 111) := rfl
theorem lr_4 : LR[4]? = some (.inl 7) := rfl
theorem lr_5 : LR[5]? = some (.inl 8) := rfl
theorem lr_6 : LR[6]? = some (.inl 8) := rfl
theorem lr_7 : LR[7]? = some (.inl 120) := rfl
theorem lr_8 : LR[8]? = some (.inl 4) := rfl
theorem lr_9 : LR[9]? = some (.inl 4) := rfl
theorem lr_10 : LR[10]? = some (.inl 160) := rfl
theorem lr_11 : LR[11]? = some (.inl 40) := rfl
theorem lx_o {j : Nat} (h : j < 3) : LX[9 * j]? = some (.inr (0, [some (9 * j + 1), some (9 * j + 2), some (9 * j + 3), some (9 * j + 4), some (9 * j + 5), some (9 * j + 6), some (9 * j + 7), some (9 * j + 8), none, none, none, none, none])) := by
  match j, h with
  | 0, _ => rfl
  | 1, _ => rfl
  | 2, _ => rfl
theorem lx_a1 {j : Nat} (h : j < 3) : LX[9 * j + 1]? = some (.inl 24) := by
  match j, h with
  | 0, _ => rfl
  | 1, _ => rfl
  | 2, _ => rfl
theorem lx_a2 {j : Nat} (h : j < 3) : LX[9 * j + 2]? = some (.inl 24) := by
  match j, h with
  | 0, _ => rfl
  | 1, _ => rfl
  | 2, _ => rfl
theorem lx_a3 {j : Nat} (h : j < 3) : LX[9 * j + 3]? = some (.inl 24) := by
  match j, h with
  | 0, _ => rfl
  | 1, _ => rfl
  | 2, _ => rfl
theorem lx_a4 {j : Nat} (h : j < 3) : LX[9 * j + 4]? = some (.inl 24) := by
  match j, h with
  | 0, _ => rfl
  | 1, _ => rfl
  | 2, _ => rfl
theorem lx_a5 {j : Nat} (h : j < 3) : LX[9 * j + 5]? = some (.inl 8) := by
  match j, h with
  | 0, _ => rfl
  | 1, _ => rfl
  | 2, _ => rfl
theorem lx_a6 {j : Nat} (h : j < 3) : LX[9 * j + 6]? = some (.inl 8) := by
  match j, h with
  | 0, _ => rfl
  | 1, _ => rfl
  | 2, _ => rfl
theorem lx_a7 {j : Nat} (h : j < 3) : LX[9 * j + 7]? = some (.inl 8) := by
  match j, h with
  | 0, _ => rfl
  | 1, _ => rfl
  | 2, _ => rfl
theorem lx_a8 {j : Nat} (h : j < 3) : LX[9 * j + 8]? = some (.inl 10) := by
  match j, h with
  | 0, _ => rfl
  | 1, _ => rfl
  | 2, _ => rfl
theorem sl_in {ws : List Cond} (ps : List Nat) (hp : ws = ps.filterMap (fun i => lw_tbl[i]?)) : ∀ w ∈ ws, w ∈ lw_tbl := by
  intro w hw
  rw [hp] at hw
  obtain ⟨i, -, hi⟩ := List.mem_filterMap.mp hw
  exact List.mem_of_getElem? hi
theorem hh_X0 : sl_H sl_cl 0 RX0 TX0 13 tyX0 := ⟨rfl, sl_in [149, 151, 153, 155, 157, 159, 161, 163, 165, 167, 169, 171, 173] (by decide +kernel), by decide +kernel, by decide +kernel, by decide +kernel⟩
theorem hh_X1 : sl_H sl_cl 1 RX1 TX1 3 tyX1 := ⟨rfl, sl_in [228, 230, 232] (by decide +kernel), by decide +kernel, by decide +kernel, by decide +kernel⟩
theorem hh_X2 : sl_H sl_cl 2 RX2 TX2 6 tyX2 := ⟨rfl, sl_in [199, 201, 203, 205, 207, 209] (by decide +kernel), by decide +kernel, by decide +kernel, by decide +kernel⟩
theorem hh_X3 : sl_H sl_cl 3 RX3 TX3 1 tyX3 := ⟨rfl, sl_in [214] (by decide +kernel), by decide +kernel, by decide +kernel, by decide +kernel⟩
theorem hh_X4 : sl_H sl_cl 4 RX4 TX4 8 tyX4 := ⟨rfl, sl_in [243, 245, 247, 249, 251, 253, 255, 257] (by decide +kernel), by decide +kernel, by decide +kernel, by decide +kernel⟩
theorem hh_X5 : sl_H sl_cl 5 RX5 TX5 20 tyX5 := ⟨rfl, sl_in [857, 859, 861, 863, 865, 867, 869, 871, 873, 875, 877, 879, 881, 883, 885, 887, 889, 891, 893, 895] (by decide +kernel), by decide +kernel, by decide +kernel, by decide +kernel⟩
theorem bp_m2 : (Int8.ofInt (-2)).toInt32 = -2 := by decide
theorem bp_6 : (Int8.ofInt 6).toInt32 = 6 := by decide
theorem bp_7 : (Int8.ofInt 7).toInt32 = 7 := by decide
theorem bp_8 : (Int8.ofInt 8).toInt32 = 8 := by decide
theorem bp_9 : (Int8.ofInt 9).toInt32 = 9 := by decide
theorem bp_10 : (Int8.ofInt 10).toInt32 = 10 := by decide
theorem bp_16 : (Int8.ofInt 16).toInt32 = 16 := by decide
theorem bp_20 : (Int8.ofInt 20).toInt32 = 20 := by decide
theorem bp_23 : (Int8.ofInt 23).toInt32 = 23 := by decide
theorem bp_24 : (Int8.ofInt 24).toInt32 = 24 := by decide
theorem bp_30 : (Int8.ofInt 30).toInt32 = 30 := by decide
theorem bp_32 : (Int8.ofInt 32).toInt32 = 32 := by decide
theorem bp_40 : (Int8.ofInt 40).toInt32 = 40 := by decide
theorem bp_48 : (Int8.ofInt 48).toInt32 = 48 := by decide
theorem bp_57 : (Int8.ofInt 57).toInt32 = 57 := by decide
theorem bp_59 : (Int8.ofInt 59).toInt32 = 59 := by decide
theorem bp_60 : (Int8.ofInt 60).toInt32 = 60 := by decide
theorem bp_63 : (Int8.ofInt 63).toInt32 = 63 := by decide
theorem bp_77 : (Int8.ofInt 77).toInt32 = 77 := by decide
theorem bp_96 : (Int8.ofInt 96).toInt32 = 96 := by decide
theorem bp_97 : (Int8.ofInt 97).toInt32 = 97 := by decide
theorem bp_99 : (Int8.ofInt 99).toInt32 = 99 := by decide
theorem bp_100 : (Int8.ofInt 100).toInt32 = 100 := by decide
theorem bp_101 : (Int8.ofInt 101).toInt32 = 101 := by decide
theorem bp_111 : (Int8.ofInt 111).toInt32 = 111 := by decide
theorem bp_120 : (Int8.ofInt 120).toInt32 = 120 := by decide
theorem bp_122 : (Int8.ofInt 122).toInt32 = 122 := by decide
theorem ic_m1 : Int32.ofInt (-1) = -1 := by decide
theorem ic_0 : Int32.ofInt 0 = 0 := by decide
theorem ic_1 : Int32.ofInt 1 = 1 := by decide
theorem ic_2 : Int32.ofInt 2 = 2 := by decide
theorem ic_3 : Int32.ofInt 3 = 3 := by decide
theorem ic_4 : Int32.ofInt 4 = 4 := by decide
theorem ic_5 : Int32.ofInt 5 = 5 := by decide
theorem sp_255 : (Int16.ofInt 255).toInt32 = 255 := by decide
theorem sp_999 : (Int16.ofInt 999).toInt32 = 999 := by decide
theorem sp_12345 : (Int16.ofInt 12345).toInt32 = 12345 := by decide

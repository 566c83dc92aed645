abbrev RX0 : String := "RainCellar$Barrel"
def TX0 : u_T := fun k => match k with
  | 0 => ("RainCellar$Barrel", "roof", "I", false)
  | 1 => ("RainCellar$Barrel", "litres", "I", false)
  | 2 => ("RainCellar$Barrel", "hail", "I", false)
  | 3 => ("RainCellar$Barrel", "storm", "I", false)
  | 4 => ("RainCellar$Barrel", "stormYear", "I", false)
  | _ => ("RainCellar$Barrel", "moss", "I", false)
def tyX0 : Nat → FieldType := fun k => match k with
  | 0 => .int
  | 1 => .int
  | 2 => .int
  | 3 => .int
  | 4 => .int
  | _ => .int
theorem nmX0 : ∀ a, a < 6 → ∀ b, b < 6 → a ≠ b → (TX0 a).2.1 ≠ (TX0 b).2.1 := by decide +kernel
theorem tyX0_ok : ∀ k, k < 6 → parseFieldDescriptor (TX0 k).2.2.1 = some (tyX0 k) := by decide +kernel
abbrev cX0_init : ByteArray := prog_2_method_1_code
def yX0_init : MethodName := ⟨RX0, "<init>", "()V"⟩
abbrev cX0_copy : ByteArray := prog_2_method_2_code
def yX0_copy : MethodName := ⟨RX0, "copy", "(LRainCellar$Barrel;)V"⟩
abbrev cX0_copyVintage : ByteArray := prog_2_method_3_code
def yX0_copyVintage : MethodName := ⟨RX0, "copyVintage", "(LRainCellar$Barrel;)V"⟩
abbrev cX0_makeEmpty : ByteArray := prog_2_method_4_code
def yX0_makeEmpty : MethodName := ⟨RX0, "makeEmpty", "()V"⟩
abbrev cX0_isEmpty : ByteArray := prog_2_method_5_code
def yX0_isEmpty : MethodName := ⟨RX0, "isEmpty", "()Z"⟩
abbrev cX0_isFreeFor : ByteArray := prog_2_method_6_code
def yX0_isFreeFor : MethodName := ⟨RX0, "isFreeFor", "(I)Z"⟩
abbrev cX0_room : ByteArray := prog_2_method_7_code
def yX0_room : MethodName := ⟨RX0, "room", "()I"⟩
abbrev cX0_hailPart : ByteArray := prog_2_method_8_code
def yX0_hailPart : MethodName := ⟨RX0, "hailPart", "()I"⟩
abbrev cX0_hailPartWith : ByteArray := prog_2_method_9_code
def yX0_hailPartWith : MethodName := ⟨RX0, "hailPartWith", "(I)I"⟩
abbrev cX0_ageIn : ByteArray := prog_2_method_10_code
def yX0_ageIn : MethodName := ⟨RX0, "ageIn", "(I)I"⟩
abbrev cX0_noteAtAge : ByteArray := prog_2_method_11_code
def yX0_noteAtAge : MethodName := ⟨RX0, "noteAtAge", "(I)I"⟩
abbrev cX0_noteYearByYear : ByteArray := prog_2_method_12_code
def yX0_noteYearByYear : MethodName := ⟨RX0, "noteYearByYear", "(I)I"⟩
abbrev cX0_noteOfTaste : ByteArray := prog_2_method_13_code
def yX0_noteOfTaste : MethodName := ⟨RX0, "noteOfTaste", "(I)I"⟩
abbrev cX0_pourIn : ByteArray := prog_2_method_14_code
def yX0_pourIn : MethodName := ⟨RX0, "pourIn", "(LRainCellar$Barrel;I)V"⟩
abbrev cX0_takeOut : ByteArray := prog_2_method_15_code
def yX0_takeOut : MethodName := ⟨RX0, "takeOut", "(I)I"⟩
abbrev cX0_hailIn : ByteArray := prog_2_method_16_code
def yX0_hailIn : MethodName := ⟨RX0, "hailIn", "(I)I"⟩
abbrev RX1 : String := "RainCellar$Cellar"
def TX1 : u_T := fun k => match k with
  | 0 => ("RainCellar$Cellar", "moss", "[I", true)
  | 1 => ("RainCellar$Cellar", "barrels", "[LRainCellar$Barrel;", true)
  | 2 => ("RainCellar$Cellar", "barrelCount", "I", false)
  | 3 => ("RainCellar$Cellar", "panel", "LRainCellar$Panel;", true)
  | 4 => ("RainCellar$Cellar", "rainfalls", "[LRainCellar$Rainfall;", true)
  | 5 => ("RainCellar$Cellar", "stormCount", "I", false)
  | 6 => ("RainCellar$Cellar", "bucket", "I", false)
  | 7 => ("RainCellar$Cellar", "year", "I", false)
  | 8 => ("RainCellar$Cellar", "cameIn", "I", false)
  | 9 => ("RainCellar$Cellar", "hailPutIn", "I", false)
  | 10 => ("RainCellar$Cellar", "lost", "I", false)
  | 11 => ("RainCellar$Cellar", "drunk", "I", false)
  | 12 => ("RainCellar$Cellar", "pouredAway", "I", false)
  | _ => ("RainCellar$Cellar", "exposed", "I", false)
def tyX1 : Nat → FieldType := fun k => match k with
  | 0 => .array .int
  | 1 => .array (.object "RainCellar$Barrel")
  | 2 => .int
  | 3 => .object "RainCellar$Panel"
  | 4 => .array (.object "RainCellar$Rainfall")
  | 5 => .int
  | 6 => .int
  | 7 => .int
  | 8 => .int
  | 9 => .int
  | 10 => .int
  | 11 => .int
  | 12 => .int
  | _ => .int
theorem nmX1 : ∀ a, a < 14 → ∀ b, b < 14 → a ≠ b → (TX1 a).2.1 ≠ (TX1 b).2.1 := by decide +kernel
theorem tyX1_ok : ∀ k, k < 14 → parseFieldDescriptor (TX1 k).2.2.1 = some (tyX1 k) := by decide +kernel
abbrev cX1_init : ByteArray := prog_3_method_1_code
def yX1_init : MethodName := ⟨RX1, "<init>", "()V"⟩
abbrev cX1_copy : ByteArray := prog_3_method_2_code
def yX1_copy : MethodName := ⟨RX1, "copy", "(LRainCellar$Cellar;)V"⟩
abbrev cX1_copyCounts : ByteArray := prog_3_method_3_code
def yX1_copyCounts : MethodName := ⟨RX1, "copyCounts", "(LRainCellar$Cellar;)V"⟩
abbrev cX1_hasBarrel : ByteArray := prog_3_method_4_code
def yX1_hasBarrel : MethodName := ⟨RX1, "hasBarrel", "(I)Z"⟩
abbrev cX1_addBarrel : ByteArray := prog_3_method_5_code
def yX1_addBarrel : MethodName := ⟨RX1, "addBarrel", "(I)V"⟩
abbrev cX1_dropBarrel : ByteArray := prog_3_method_6_code
def yX1_dropBarrel : MethodName := ⟨RX1, "dropBarrel", "(I)V"⟩
abbrev cX1_barrelsUnder : ByteArray := prog_3_method_7_code
def yX1_barrelsUnder : MethodName := ⟨RX1, "barrelsUnder", "(I)I"⟩
abbrev cX1_emptyUnder : ByteArray := prog_3_method_8_code
def yX1_emptyUnder : MethodName := ⟨RX1, "emptyUnder", "(I)I"⟩
abbrev cX1_litresUnder : ByteArray := prog_3_method_9_code
def yX1_litresUnder : MethodName := ⟨RX1, "litresUnder", "(I)I"⟩
abbrev cX1_litresInBarrels : ByteArray := prog_3_method_10_code
def yX1_litresInBarrels : MethodName := ⟨RX1, "litresInBarrels", "()I"⟩
abbrev cX1_hailInBarrels : ByteArray := prog_3_method_11_code
def yX1_hailInBarrels : MethodName := ⟨RX1, "hailInBarrels", "()I"⟩
abbrev cX1_litresOfStorm : ByteArray := prog_3_method_12_code
def yX1_litresOfStorm : MethodName := ⟨RX1, "litresOfStorm", "(I)I"⟩
abbrev cX1_litresIntoBarrels : ByteArray := prog_3_method_13_code
def yX1_litresIntoBarrels : MethodName := ⟨RX1, "litresIntoBarrels", "(I)I"⟩
abbrev cX1_mostHailFor : ByteArray := prog_3_method_14_code
def yX1_mostHailFor : MethodName := ⟨RX1, "mostHailFor", "(LRainCellar$Barrel;)I"⟩
abbrev cX1_isLateStorm : ByteArray := prog_3_method_15_code
def yX1_isLateStorm : MethodName := ⟨RX1, "isLateStorm", "(I)Z"⟩
abbrev cX1_rainfallOf : ByteArray := prog_3_method_16_code
def yX1_rainfallOf : MethodName := ⟨RX1, "rainfallOf", "(I)LRainCellar$Rainfall;"⟩
abbrev cX1_noteOf : ByteArray := prog_3_method_17_code
def yX1_noteOf : MethodName := ⟨RX1, "noteOf", "(LRainCellar$Barrel;)I"⟩
abbrev cX1_measureOf : ByteArray := prog_3_method_18_code
def yX1_measureOf : MethodName := ⟨RX1, "measureOf", "(II)I"⟩
abbrev cX1_placeOf : ByteArray := prog_3_method_19_code
def yX1_placeOf : MethodName := ⟨RX1, "placeOf", "(II)I"⟩
abbrev RX2 : String := "RainCellar$History"
def TX2 : u_T := fun k => match k with
  | 0 => ("RainCellar$History", "ring", "[LRainCellar$Cellar;", true)
  | 1 => ("RainCellar$History", "first", "I", false)
  | _ => ("RainCellar$History", "size", "I", false)
def tyX2 : Nat → FieldType := fun k => match k with
  | 0 => .array (.object "RainCellar$Cellar")
  | 1 => .int
  | _ => .int
theorem nmX2 : ∀ a, a < 3 → ∀ b, b < 3 → a ≠ b → (TX2 a).2.1 ≠ (TX2 b).2.1 := by decide +kernel
theorem tyX2_ok : ∀ k, k < 3 → parseFieldDescriptor (TX2 k).2.2.1 = some (tyX2 k) := by decide +kernel
abbrev cX2_init : ByteArray := prog_4_method_1_code
def yX2_init : MethodName := ⟨RX2, "<init>", "()V"⟩
abbrev cX2_aside : ByteArray := prog_4_method_2_code
def yX2_aside : MethodName := ⟨RX2, "aside", "()LRainCellar$Cellar;"⟩
abbrev cX2_setAside : ByteArray := prog_4_method_3_code
def yX2_setAside : MethodName := ⟨RX2, "setAside", "(LRainCellar$Cellar;)V"⟩
abbrev cX2_keepAside : ByteArray := prog_4_method_4_code
def yX2_keepAside : MethodName := ⟨RX2, "keepAside", "()V"⟩
abbrev cX2_takeLatest : ByteArray := prog_4_method_5_code
def yX2_takeLatest : MethodName := ⟨RX2, "takeLatest", "()LRainCellar$Cellar;"⟩
abbrev cX2_forget : ByteArray := prog_4_method_6_code
def yX2_forget : MethodName := ⟨RX2, "forget", "()V"⟩
abbrev RX3 : String := "RainCellar$Panel"
def TX3 : u_T := fun k => match k with
  | 0 => ("RainCellar$Panel", "palates", "[I", true)
  | 1 => ("RainCellar$Panel", "areStrict", "[Z", true)
  | _ => ("RainCellar$Panel", "size", "I", false)
def tyX3 : Nat → FieldType := fun k => match k with
  | 0 => .array .int
  | 1 => .array .boolean
  | _ => .int
theorem nmX3 : ∀ a, a < 3 → ∀ b, b < 3 → a ≠ b → (TX3 a).2.1 ≠ (TX3 b).2.1 := by decide +kernel
theorem tyX3_ok : ∀ k, k < 3 → parseFieldDescriptor (TX3 k).2.2.1 = some (tyX3 k) := by decide +kernel
abbrev cX3_init : ByteArray := prog_5_method_1_code
def yX3_init : MethodName := ⟨RX3, "<init>", "()V"⟩
abbrev cX3_copy : ByteArray := prog_5_method_2_code
def yX3_copy : MethodName := ⟨RX3, "copy", "(LRainCellar$Panel;)V"⟩
abbrev cX3_has : ByteArray := prog_5_method_3_code
def yX3_has : MethodName := ⟨RX3, "has", "(I)Z"⟩
abbrev cX3_add : ByteArray := prog_5_method_4_code
def yX3_add : MethodName := ⟨RX3, "add", "(IZ)V"⟩
abbrev cX3_remove : ByteArray := prog_5_method_5_code
def yX3_remove : MethodName := ⟨RX3, "remove", "(I)V"⟩
abbrev cX3_doesNotice : ByteArray := prog_5_method_6_code
def yX3_doesNotice : MethodName := ⟨RX3, "doesNotice", "(II)Z"⟩
abbrev cX3_thoseWhoNotice : ByteArray := prog_5_method_7_code
def yX3_thoseWhoNotice : MethodName := ⟨RX3, "thoseWhoNotice", "(I)I"⟩
abbrev cX3_doesBestNotice : ByteArray := prog_5_method_8_code
def yX3_doesBestNotice : MethodName := ⟨RX3, "doesBestNotice", "(I)Z"⟩
abbrev cX3_mildPalate : ByteArray := prog_5_method_9_code
def yX3_mildPalate : MethodName := ⟨RX3, "mildPalate", "(I)I"⟩
abbrev cX3_doesPalateNotice : ByteArray := prog_5_method_10_code
def yX3_doesPalateNotice : MethodName := ⟨RX3, "doesPalateNotice", "(II)Z"⟩
abbrev RX4 : String := "RainCellar$Rainfall"
def TX4 : u_T := fun k => match k with
  | 0 => ("RainCellar$Rainfall", "strength", "I", false)
  | 1 => ("RainCellar$Rainfall", "year", "I", false)
  | _ => ("RainCellar$Rainfall", "litres", "I", false)
def tyX4 : Nat → FieldType := fun k => match k with
  | 0 => .int
  | 1 => .int
  | _ => .int
theorem nmX4 : ∀ a, a < 3 → ∀ b, b < 3 → a ≠ b → (TX4 a).2.1 ≠ (TX4 b).2.1 := by decide +kernel
theorem tyX4_ok : ∀ k, k < 3 → parseFieldDescriptor (TX4 k).2.2.1 = some (tyX4 k) := by decide +kernel
abbrev cX4_init : ByteArray := prog_6_method_1_code
def yX4_init : MethodName := ⟨RX4, "<init>", "()V"⟩
abbrev cX4_copy : ByteArray := prog_6_method_2_code
def yX4_copy : MethodName := ⟨RX4, "copy", "(LRainCellar$Rainfall;)V"⟩
abbrev RX5 : String := "RainCellar$Refusal"
def TX5 : u_T := fun k => match k with
  | 0 => ("RainCellar$Refusal", "cause", "I", false)
  | 1 => ("RainCellar$Refusal", "detail", "I", false)
  | _ => ("RainCellar$Refusal", "command", "I", false)
def tyX5 : Nat → FieldType := fun k => match k with
  | 0 => .int
  | 1 => .int
  | _ => .int
theorem nmX5 : ∀ a, a < 3 → ∀ b, b < 3 → a ≠ b → (TX5 a).2.1 ≠ (TX5 b).2.1 := by decide +kernel
theorem tyX5_ok : ∀ k, k < 3 → parseFieldDescriptor (TX5 k).2.2.1 = some (tyX5 k) := by decide +kernel
abbrev cX5_init : ByteArray := prog_7_method_1_code
def yX5_init : MethodName := ⟨RX5, "<init>", "()V"⟩
abbrev cX5_because : ByteArray := prog_7_method_2_code
def yX5_because : MethodName := ⟨RX5, "because", "(II)I"⟩
abbrev RX6 : String := "RainCellar$Text"
def TX6 : u_T := fun k => match k with
  | 0 => ("RainCellar$Text", "signs", "[C", true)
  | 1 => ("RainCellar$Text", "length", "I", false)
  | 2 => ("RainCellar$Text", "kinds", "[C", true)
  | 3 => ("RainCellar$Text", "numbers", "[I", true)
  | 4 => ("RainCellar$Text", "commandCount", "I", false)
  | 5 => ("RainCellar$Text", "at", "I", false)
  | _ => ("RainCellar$Text", "numberCount", "I", false)
def tyX6 : Nat → FieldType := fun k => match k with
  | 0 => .array .char
  | 1 => .int
  | 2 => .array .char
  | 3 => .array .int
  | 4 => .int
  | 5 => .int
  | _ => .int
theorem nmX6 : ∀ a, a < 7 → ∀ b, b < 7 → a ≠ b → (TX6 a).2.1 ≠ (TX6 b).2.1 := by decide +kernel
theorem tyX6_ok : ∀ k, k < 7 → parseFieldDescriptor (TX6 k).2.2.1 = some (tyX6 k) := by decide +kernel
abbrev cX6_init : ByteArray := prog_8_method_1_code
def yX6_init : MethodName := ⟨RX6, "<init>", "()V"⟩
abbrev cX6_add : ByteArray := prog_8_method_2_code
def yX6_add : MethodName := ⟨RX6, "add", "(C)V"⟩
abbrev cX6_makeEmpty : ByteArray := prog_8_method_3_code
def yX6_makeEmpty : MethodName := ⟨RX6, "makeEmpty", "()V"⟩
abbrev cX6_numberOf : ByteArray := prog_8_method_4_code
def yX6_numberOf : MethodName := ⟨RX6, "numberOf", "(II)I"⟩
abbrev cX6_read : ByteArray := prog_8_method_5_code
def yX6_read : MethodName := ⟨RX6, "read", "()I"⟩
abbrev cX6_readCommand : ByteArray := prog_8_method_6_code
def yX6_readCommand : MethodName := ⟨RX6, "readCommand", "()Z"⟩
abbrev cX6_formOf : ByteArray := prog_8_method_7_code
def yX6_formOf : MethodName := ⟨RX6, "formOf", "(C)Ljava/lang/String;"⟩
abbrev cX6_readPart : ByteArray := prog_8_method_8_code
def yX6_readPart : MethodName := ⟨RX6, "readPart", "(C)Z"⟩
abbrev cX6_readSign : ByteArray := prog_8_method_9_code
def yX6_readSign : MethodName := ⟨RX6, "readSign", "(C)Z"⟩
abbrev cX6_readNumber : ByteArray := prog_8_method_10_code
def yX6_readNumber : MethodName := ⟨RX6, "readNumber", "(I)Z"⟩
abbrev RX7 : String := "RainCellar$Work"
def TX7 : u_T := fun k => match k with
  | 0 => ("RainCellar$Work", "cellar", "LRainCellar$Cellar;", true)
  | _ => ("RainCellar$Work", "refusal", "LRainCellar$Refusal;", true)
def tyX7 : Nat → FieldType := fun k => match k with
  | 0 => .object "RainCellar$Cellar"
  | _ => .object "RainCellar$Refusal"
theorem nmX7 : ∀ a, a < 2 → ∀ b, b < 2 → a ≠ b → (TX7 a).2.1 ≠ (TX7 b).2.1 := by decide +kernel
theorem tyX7_ok : ∀ k, k < 2 → parseFieldDescriptor (TX7 k).2.2.1 = some (tyX7 k) := by decide +kernel
abbrev cX7_init : ByteArray := prog_9_method_1_code
def yX7_init : MethodName := ⟨RX7, "<init>", "()V"⟩
abbrev cX7_letStormBy : ByteArray := prog_9_method_2_code
def yX7_letStormBy : MethodName := ⟨RX7, "letStormBy", "(II)I"⟩
abbrev cX7_fillUnder : ByteArray := prog_9_method_3_code
def yX7_fillUnder : MethodName := ⟨RX7, "fillUnder", "(II)I"⟩
abbrev cX7_tell : ByteArray := prog_9_method_4_code
def yX7_tell : MethodName := ⟨RX7, "tell", "(II)V"⟩
abbrev cX7_placeBarrel : ByteArray := prog_9_method_5_code
def yX7_placeBarrel : MethodName := ⟨RX7, "placeBarrel", "(I)I"⟩
abbrev cX7_removeBarrel : ByteArray := prog_9_method_6_code
def yX7_removeBarrel : MethodName := ⟨RX7, "removeBarrel", "(I)I"⟩
abbrev cX7_pourOver : ByteArray := prog_9_method_7_code
def yX7_pourOver : MethodName := ⟨RX7, "pourOver", "(III)I"⟩
abbrev cX7_adulterate : ByteArray := prog_9_method_8_code
def yX7_adulterate : MethodName := ⟨RX7, "adulterate", "(II)I"⟩
abbrev cX7_letCome : ByteArray := prog_9_method_9_code
def yX7_letCome : MethodName := ⟨RX7, "letCome", "(IZ)I"⟩
abbrev cX7_letLeave : ByteArray := prog_9_method_10_code
def yX7_letLeave : MethodName := ⟨RX7, "letLeave", "(I)I"⟩
abbrev cX7_letPanelDrink : ByteArray := prog_9_method_11_code
def yX7_letPanelDrink : MethodName := ⟨RX7, "letPanelDrink", "(I)I"⟩
abbrev cX7_clearRoof : ByteArray := prog_9_method_12_code
def yX7_clearRoof : MethodName := ⟨RX7, "clearRoof", "(I)I"⟩
abbrev cX7_letYearGoBy : ByteArray := prog_9_method_13_code
def yX7_letYearGoBy : MethodName := ⟨RX7, "letYearGoBy", "()I"⟩
abbrev RX8 : String := "RainCellar"
def TX8 : u_T := fun k => match k with
  | 0 => ("RainCellar", "work", "LRainCellar$Work;", true)
  | 1 => ("RainCellar", "now", "LRainCellar$Cellar;", true)
  | 2 => ("RainCellar", "refusal", "LRainCellar$Refusal;", true)
  | 3 => ("RainCellar", "saved", "LRainCellar$Cellar;", true)
  | 4 => ("RainCellar", "hasSaved", "Z", false)
  | 5 => ("RainCellar", "history", "LRainCellar$History;", true)
  | 6 => ("RainCellar", "text", "LRainCellar$Text;", true)
  | 7 => ("RainCellar", "fault", "I", false)
  | _ => ("RainCellar", "written", "Ljava/lang/StringBuilder;", true)
def tyX8 : Nat → FieldType := fun k => match k with
  | 0 => .object "RainCellar$Work"
  | 1 => .object "RainCellar$Cellar"
  | 2 => .object "RainCellar$Refusal"
  | 3 => .object "RainCellar$Cellar"
  | 4 => .boolean
  | 5 => .object "RainCellar$History"
  | 6 => .object "RainCellar$Text"
  | 7 => .int
  | _ => .object "java/lang/StringBuilder"
theorem nmX8 : ∀ a, a < 9 → ∀ b, b < 9 → a ≠ b → (TX8 a).2.1 ≠ (TX8 b).2.1 := by decide +kernel
theorem tyX8_ok : ∀ k, k < 9 → parseFieldDescriptor (TX8 k).2.2.1 = some (tyX8 k) := by decide +kernel
abbrev cX8_init : ByteArray := prog_1_method_1_code
def yX8_init : MethodName := ⟨RX8, "<init>", "()V"⟩
abbrev cX8_storm : ByteArray := prog_1_method_2_code
def yX8_storm : MethodName := ⟨RX8, "storm", "(II)I"⟩
abbrev cX8_barrel : ByteArray := prog_1_method_3_code
def yX8_barrel : MethodName := ⟨RX8, "barrel", "(I)I"⟩
abbrev cX8_takeAway : ByteArray := prog_1_method_4_code
def yX8_takeAway : MethodName := ⟨RX8, "takeAway", "(I)I"⟩
abbrev cX8_pour : ByteArray := prog_1_method_5_code
def yX8_pour : MethodName := ⟨RX8, "pour", "(III)I"⟩
abbrev cX8_hail : ByteArray := prog_1_method_6_code
def yX8_hail : MethodName := ⟨RX8, "hail", "(II)I"⟩
abbrev cX8_sommelier : ByteArray := prog_1_method_7_code
def yX8_sommelier : MethodName := ⟨RX8, "sommelier", "(IZ)I"⟩
abbrev cX8_leave : ByteArray := prog_1_method_8_code
def yX8_leave : MethodName := ⟨RX8, "leave", "(I)I"⟩
abbrev cX8_drink : ByteArray := prog_1_method_9_code
def yX8_drink : MethodName := ⟨RX8, "drink", "(I)I"⟩
abbrev cX8_clear : ByteArray := prog_1_method_10_code
def yX8_clear : MethodName := ⟨RX8, "clear", "(I)I"⟩
abbrev cX8_year : ByteArray := prog_1_method_11_code
def yX8_year : MethodName := ⟨RX8, "year", "()I"⟩
abbrev cX8_roofOf : ByteArray := prog_1_method_12_code
def yX8_roofOf : MethodName := ⟨RX8, "roofOf", "(II)I"⟩
abbrev cX8_barrelOf : ByteArray := prog_1_method_13_code
def yX8_barrelOf : MethodName := ⟨RX8, "barrelOf", "(II)I"⟩
abbrev cX8_note : ByteArray := prog_1_method_14_code
def yX8_note : MethodName := ⟨RX8, "note", "(I)I"⟩
abbrev cX8_noteAgain : ByteArray := prog_1_method_15_code
def yX8_noteAgain : MethodName := ⟨RX8, "noteAgain", "(I)I"⟩
abbrev cX8_noteIn : ByteArray := prog_1_method_16_code
def yX8_noteIn : MethodName := ⟨RX8, "noteIn", "(II)I"⟩
abbrev cX8_notices : ByteArray := prog_1_method_17_code
def yX8_notices : MethodName := ⟨RX8, "notices", "(II)Z"⟩
abbrev cX8_noticing : ByteArray := prog_1_method_18_code
def yX8_noticing : MethodName := ⟨RX8, "noticing", "(I)I"⟩
abbrev cX8_hidden : ByteArray := prog_1_method_19_code
def yX8_hidden : MethodName := ⟨RX8, "hidden", "(I)I"⟩
abbrev cX8_hiddenAgain : ByteArray := prog_1_method_20_code
def yX8_hiddenAgain : MethodName := ⟨RX8, "hiddenAgain", "(I)I"⟩
abbrev cX8_wouldCatch : ByteArray := prog_1_method_21_code
def yX8_wouldCatch : MethodName := ⟨RX8, "wouldCatch", "(I)I"⟩
abbrev cX8_wouldLose : ByteArray := prog_1_method_22_code
def yX8_wouldLose : MethodName := ⟨RX8, "wouldLose", "(I)I"⟩
abbrev cX8_vintage : ByteArray := prog_1_method_23_code
def yX8_vintage : MethodName := ⟨RX8, "vintage", "(I)I"⟩
abbrev cX8_stormOf : ByteArray := prog_1_method_24_code
def yX8_stormOf : MethodName := ⟨RX8, "stormOf", "(II)I"⟩
abbrev cX8_canPour : ByteArray := prog_1_method_25_code
def yX8_canPour : MethodName := ⟨RX8, "canPour", "(II)Z"⟩
abbrev cX8_ranked : ByteArray := prog_1_method_26_code
def yX8_ranked : MethodName := ⟨RX8, "ranked", "(II)I"⟩
abbrev cX8_isEven : ByteArray := prog_1_method_27_code
def yX8_isEven : MethodName := ⟨RX8, "isEven", "()Z"⟩
abbrev cX8_append : ByteArray := prog_1_method_28_code
def yX8_append : MethodName := ⟨RX8, "append", "(C)I"⟩
abbrev cX8_commands : ByteArray := prog_1_method_29_code
def yX8_commands : MethodName := ⟨RX8, "commands", "()I"⟩
abbrev cX8_line : ByteArray := prog_1_method_32_code
def yX8_line : MethodName := ⟨RX8, "line", "(I)I"⟩
abbrev cX8_panel : ByteArray := prog_1_method_33_code
def yX8_panel : MethodName := ⟨RX8, "panel", "()I"⟩
abbrev cX8_character : ByteArray := prog_1_method_34_code
def yX8_character : MethodName := ⟨RX8, "character", "(I)C"⟩
abbrev cX8_meanNote : ByteArray := prog_1_method_35_code
def yX8_meanNote : MethodName := ⟨RX8, "meanNote", "()D"⟩
abbrev cX8_hailShare : ByteArray := prog_1_method_36_code
def yX8_hailShare : MethodName := ⟨RX8, "hailShare", "()F"⟩
abbrev cX8_account : ByteArray := prog_1_method_37_code
def yX8_account : MethodName := ⟨RX8, "account", "(I)I"⟩
abbrev cX8_undo : ByteArray := prog_1_method_38_code
def yX8_undo : MethodName := ⟨RX8, "undo", "()I"⟩
abbrev cX8_save : ByteArray := prog_1_method_39_code
def yX8_save : MethodName := ⟨RX8, "save", "()I"⟩
abbrev cX8_restore : ByteArray := prog_1_method_40_code
def yX8_restore : MethodName := ⟨RX8, "restore", "()I"⟩
abbrev cX8_kept : ByteArray := prog_1_method_41_code
def yX8_kept : MethodName := ⟨RX8, "kept", "(I)I"⟩
abbrev cX8_existing : ByteArray := prog_1_method_42_code
def yX8_existing : MethodName := ⟨RX8, "existing", "(I)LRainCellar$Barrel;"⟩
abbrev cX8_filled : ByteArray := prog_1_method_43_code
def yX8_filled : MethodName := ⟨RX8, "filled", "(I)LRainCellar$Barrel;"⟩
abbrev cX8_unnoticed : ByteArray := prog_1_method_44_code
def yX8_unnoticed : MethodName := ⟨RX8, "unnoticed", "(I)LRainCellar$Barrel;"⟩
abbrev cX8_carryOut : ByteArray := prog_1_method_45_code
def yX8_carryOut : MethodName := ⟨RX8, "carryOut", "(I)I"⟩
abbrev cX8_isOutside : ByteArray := prog_1_method_46_code
def yX8_isOutside : MethodName := ⟨RX8, "isOutside", "(III)Z"⟩
abbrev cX8_litresOnRoof : ByteArray := prog_1_method_47_code
def yX8_litresOnRoof : MethodName := ⟨RX8, "litresOnRoof", "(II)I"⟩
abbrev cX8_litresOnRoofs : ByteArray := prog_1_method_48_code
def yX8_litresOnRoofs : MethodName := ⟨RX8, "litresOnRoofs", "(I)I"⟩
abbrev RX9 : String := "RainCellarModel"
def TX9 : u_T := fun k => match k with
  | _ => ("", "", "", false)
def tyX9 : Nat → FieldType := fun k => match k with
  | _ => .int
theorem nmX9 : ∀ a, a < 0 → ∀ b, b < 0 → a ≠ b → (TX9 a).2.1 ≠ (TX9 b).2.1 := by decide +kernel
theorem tyX9_ok : ∀ k, k < 0 → parseFieldDescriptor (TX9 k).2.2.1 = some (tyX9 k) := by decide +kernel
abbrev RJx145de : String := "java/io/Serializable"
def TJx145de : u_T := fun k => match k with
  | _ => ("", "", "", false)
def tyJx145de : Nat → FieldType := fun k => match k with
  | _ => .int
theorem nmJx145de : ∀ a, a < 0 → ∀ b, b < 0 → a ≠ b → (TJx145de a).2.1 ≠ (TJx145de b).2.1 := by decide +kernel
theorem tyJx145de_ok : ∀ k, k < 0 → parseFieldDescriptor (TJx145de k).2.2.1 = some (tyJx145de k) := by decide +kernel
abbrev RJ5 : String := "java/lang/AbstractStringBuilder"
def TJ5 : u_T := fun k => match k with
  | _ => ("", "", "", false)
def tyJ5 : Nat → FieldType := fun k => match k with
  | _ => .int
theorem nmJ5 : ∀ a, a < 0 → ∀ b, b < 0 → a ≠ b → (TJ5 a).2.1 ≠ (TJ5 b).2.1 := by decide +kernel
theorem tyJ5_ok : ∀ k, k < 0 → parseFieldDescriptor (TJ5 k).2.2.1 = some (tyJ5 k) := by decide +kernel
abbrev cJ5_init_d00df : ByteArray := prog_13_method_2_code
def yJ5_init_d00df : MethodName := ⟨RJ5, "<init>", "(I)V"⟩
abbrev cJ5_length_8abf5 : ByteArray := prog_13_method_6_code
def yJ5_length_8abf5 : MethodName := ⟨RJ5, "length", "()I"⟩
abbrev cJ5_ensureCapacityInternal_d00df : ByteArray := prog_13_method_9_code
def yJ5_ensureCapacityInternal_d00df : MethodName := ⟨RJ5, "ensureCapacityInternal", "(I)V"⟩
abbrev cJ5_newCapacity_0f7a4 : ByteArray := prog_13_method_10_code
def yJ5_newCapacity_0f7a4 : MethodName := ⟨RJ5, "newCapacity", "(I)I"⟩
abbrev cJ5_inflate_da8c8 : ByteArray := prog_13_method_11_code
def yJ5_inflate_da8c8 : MethodName := ⟨RJ5, "inflate", "()V"⟩
abbrev cJ5_setLength_d00df : ByteArray := prog_13_method_13_code
def yJ5_setLength_d00df : MethodName := ⟨RJ5, "setLength", "(I)V"⟩
abbrev cJ5_charAt_5068e : ByteArray := prog_13_method_14_code
def yJ5_charAt_5068e : MethodName := ⟨RJ5, "charAt", "(I)C"⟩
abbrev cJ5_append_cf1ce : ByteArray := prog_13_method_22_code
def yJ5_append_cf1ce : MethodName := ⟨RJ5, "append", "(Ljava/lang/String;)Ljava/lang/AbstractStringBuilder;"⟩
abbrev cJ5_appendNull_278bc : ByteArray := prog_13_method_26_code
def yJ5_appendNull_278bc : MethodName := ⟨RJ5, "appendNull", "()Ljava/lang/AbstractStringBuilder;"⟩
abbrev cJ5_append_3fe6f : ByteArray := prog_13_method_31_code
def yJ5_append_3fe6f : MethodName := ⟨RJ5, "append", "(C)Ljava/lang/AbstractStringBuilder;"⟩
abbrev cJ5_append_c97b9 : ByteArray := prog_13_method_32_code
def yJ5_append_c97b9 : MethodName := ⟨RJ5, "append", "(I)Ljava/lang/AbstractStringBuilder;"⟩
abbrev cJ5_getValue_6d5f1 : ByteArray := prog_13_method_64_code
def yJ5_getValue_6d5f1 : MethodName := ⟨RJ5, "getValue", "()[B"⟩
abbrev cJ5_isLatin1_aae02 : ByteArray := prog_13_method_68_code
def yJ5_isLatin1_aae02 : MethodName := ⟨RJ5, "isLatin1", "()Z"⟩
abbrev cJ5_inflateIfNeededFor_a7421 : ByteArray := prog_13_method_71_code
def yJ5_inflateIfNeededFor_a7421 : MethodName := ⟨RJ5, "inflateIfNeededFor", "(Ljava/lang/String;)V"⟩
abbrev cJ5_putStringAt_47b60 : ByteArray := prog_13_method_73_code
def yJ5_putStringAt_47b60 : MethodName := ⟨RJ5, "putStringAt", "(ILjava/lang/String;)V"⟩
abbrev RJx2cfe8 : String := "java/lang/Appendable"
def TJx2cfe8 : u_T := fun k => match k with
  | _ => ("", "", "", false)
def tyJx2cfe8 : Nat → FieldType := fun k => match k with
  | _ => .int
theorem nmJx2cfe8 : ∀ a, a < 0 → ∀ b, b < 0 → a ≠ b → (TJx2cfe8 a).2.1 ≠ (TJx2cfe8 b).2.1 := by decide +kernel
theorem tyJx2cfe8_ok : ∀ k, k < 0 → parseFieldDescriptor (TJx2cfe8 k).2.2.1 = some (tyJx2cfe8 k) := by decide +kernel
abbrev RJx00060 : String := "java/lang/ArrayIndexOutOfBoundsException"
def TJx00060 : u_T := fun k => match k with
  | 0 => ("java/lang/Throwable", "backtrace", "Ljava/lang/Object;", false)
  | 1 => ("java/lang/Throwable", "detailMessage", "Ljava/lang/String;", false)
  | 2 => ("java/lang/Throwable", "cause", "Ljava/lang/Throwable;", false)
  | 3 => ("java/lang/Throwable", "stackTrace", "[Ljava/lang/StackTraceElement;", false)
  | 4 => ("java/lang/Throwable", "depth", "I", false)
  | _ => ("java/lang/Throwable", "suppressedExceptions", "Ljava/util/List;", false)
def tyJx00060 : Nat → FieldType := fun k => match k with
  | 0 => .object "java/lang/Object"
  | 1 => .object "java/lang/String"
  | 2 => .object "java/lang/Throwable"
  | 3 => .array (.object "java/lang/StackTraceElement")
  | 4 => .int
  | _ => .object "java/util/List"
theorem nmJx00060 : ∀ a, a < 6 → ∀ b, b < 6 → a ≠ b → (TJx00060 a).2.1 ≠ (TJx00060 b).2.1 := by decide +kernel
theorem tyJx00060_ok : ∀ k, k < 6 → parseFieldDescriptor (TJx00060 k).2.2.1 = some (tyJx00060 k) := by decide +kernel
abbrev cJx00060_init_a7421 : ByteArray := prog_16_method_2_code
def yJx00060_init_a7421 : MethodName := ⟨RJx00060, "<init>", "(Ljava/lang/String;)V"⟩
abbrev cJx00060_init_d00df : ByteArray := prog_16_method_3_code
def yJx00060_init_d00df : MethodName := ⟨RJx00060, "<init>", "(I)V"⟩
abbrev RJx9f9b0 : String := "java/lang/CharSequence"
def TJx9f9b0 : u_T := fun k => match k with
  | _ => ("", "", "", false)
def tyJx9f9b0 : Nat → FieldType := fun k => match k with
  | _ => .int
theorem nmJx9f9b0 : ∀ a, a < 0 → ∀ b, b < 0 → a ≠ b → (TJx9f9b0 a).2.1 ≠ (TJx9f9b0 b).2.1 := by decide +kernel
theorem tyJx9f9b0_ok : ∀ k, k < 0 → parseFieldDescriptor (TJx9f9b0 k).2.2.1 = some (tyJx9f9b0 k) := by decide +kernel
abbrev RJ11 : String := "java/lang/Character"
def TJ11 : u_T := fun k => match k with
  | _ => ("", "", "", false)
def tyJ11 : Nat → FieldType := fun k => match k with
  | _ => .int
theorem nmJ11 : ∀ a, a < 0 → ∀ b, b < 0 → a ≠ b → (TJ11 a).2.1 ≠ (TJ11 b).2.1 := by decide +kernel
theorem tyJ11_ok : ∀ k, k < 0 → parseFieldDescriptor (TJ11 k).2.2.1 = some (tyJ11 k) := by decide +kernel
abbrev cJ11_isValidCodePoint_9a6ad : ByteArray := prog_18_method_11_code
def yJ11_isValidCodePoint_9a6ad : MethodName := ⟨RJ11, "isValidCodePoint", "(I)Z"⟩
abbrev cJ11_highSurrogate_5068e : ByteArray := prog_18_method_28_code
def yJ11_highSurrogate_5068e : MethodName := ⟨RJ11, "highSurrogate", "(I)C"⟩
abbrev cJ11_lowSurrogate_5068e : ByteArray := prog_18_method_29_code
def yJ11_lowSurrogate_5068e : MethodName := ⟨RJ11, "lowSurrogate", "(I)C"⟩
abbrev RJx8e188 : String := "java/lang/Cloneable"
def TJx8e188 : u_T := fun k => match k with
  | _ => ("", "", "", false)
def tyJx8e188 : Nat → FieldType := fun k => match k with
  | _ => .int
theorem nmJx8e188 : ∀ a, a < 0 → ∀ b, b < 0 → a ≠ b → (TJx8e188 a).2.1 ≠ (TJx8e188 b).2.1 := by decide +kernel
theorem tyJx8e188_ok : ∀ k, k < 0 → parseFieldDescriptor (TJx8e188 k).2.2.1 = some (tyJx8e188 k) := by decide +kernel
abbrev RJxb160c : String := "java/lang/Comparable"
def TJxb160c : u_T := fun k => match k with
  | _ => ("", "", "", false)
def tyJxb160c : Nat → FieldType := fun k => match k with
  | _ => .int
theorem nmJxb160c : ∀ a, a < 0 → ∀ b, b < 0 → a ≠ b → (TJxb160c a).2.1 ≠ (TJxb160c b).2.1 := by decide +kernel
theorem tyJxb160c_ok : ∀ k, k < 0 → parseFieldDescriptor (TJxb160c k).2.2.1 = some (tyJxb160c k) := by decide +kernel
abbrev RJ6 : String := "java/lang/Integer"
def TJ6 : u_T := fun k => match k with
  | _ => ("", "", "", false)
def tyJ6 : Nat → FieldType := fun k => match k with
  | _ => .int
theorem nmJ6 : ∀ a, a < 0 → ∀ b, b < 0 → a ≠ b → (TJ6 a).2.1 ≠ (TJ6 b).2.1 := by decide +kernel
theorem tyJ6_ok : ∀ k, k < 0 → parseFieldDescriptor (TJ6 k).2.2.1 = some (tyJ6 k) := by decide +kernel
abbrev cJ6_getChars_ba4f3 : ByteArray := prog_25_method_12_code
def yJ6_getChars_ba4f3 : MethodName := ⟨RJ6, "getChars", "(II[B)I"⟩
abbrev cJ6_stringSize_0f7a4 : ByteArray := prog_25_method_13_code
def yJ6_stringSize_0f7a4 : MethodName := ⟨RJ6, "stringSize", "(I)I"⟩
abbrev RJ9 : String := "java/lang/Math"
def TJ9 : u_T := fun k => match k with
  | _ => ("", "", "", false)
def tyJ9 : Nat → FieldType := fun k => match k with
  | _ => .int
theorem nmJ9 : ∀ a, a < 0 → ∀ b, b < 0 → a ≠ b → (TJ9 a).2.1 ≠ (TJ9 b).2.1 := by decide +kernel
theorem tyJ9_ok : ∀ k, k < 0 → parseFieldDescriptor (TJ9 k).2.2.1 = some (tyJ9 k) := by decide +kernel
abbrev cJ9_floorMod_7cf53 : ByteArray := prog_26_method_50_code
def yJ9_floorMod_7cf53 : MethodName := ⟨RJ9, "floorMod", "(II)I"⟩
abbrev cJ9_max_7cf53 : ByteArray := prog_26_method_65_code
def yJ9_max_7cf53 : MethodName := ⟨RJ9, "max", "(II)I"⟩
abbrev cJ9_min_7cf53 : ByteArray := prog_26_method_69_code
def yJ9_min_7cf53 : MethodName := ⟨RJ9, "min", "(II)I"⟩
abbrev RJxd2413 : String := "java/lang/Number"
def TJxd2413 : u_T := fun k => match k with
  | _ => ("", "", "", false)
def tyJxd2413 : Nat → FieldType := fun k => match k with
  | _ => .int
theorem nmJxd2413 : ∀ a, a < 0 → ∀ b, b < 0 → a ≠ b → (TJxd2413 a).2.1 ≠ (TJxd2413 b).2.1 := by decide +kernel
theorem tyJxd2413_ok : ∀ k, k < 0 → parseFieldDescriptor (TJxd2413 k).2.2.1 = some (tyJxd2413 k) := by decide +kernel
abbrev RJ0 : String := "java/lang/String"
def TJ0 : u_T := fun k => match k with
  | 0 => ("java/lang/String", "value", "[B", true)
  | 1 => ("java/lang/String", "coder", "B", true)
  | 2 => ("java/lang/String", "hash", "I", false)
  | _ => ("java/lang/String", "hashIsZero", "Z", false)
def tyJ0 : Nat → FieldType := fun k => match k with
  | 0 => .array .byte
  | 1 => .byte
  | 2 => .int
  | _ => .boolean
theorem nmJ0 : ∀ a, a < 4 → ∀ b, b < 4 → a ≠ b → (TJ0 a).2.1 ≠ (TJ0 b).2.1 := by decide +kernel
theorem tyJ0_ok : ∀ k, k < 4 → parseFieldDescriptor (TJ0 k).2.2.1 = some (tyJ0 k) := by decide +kernel
abbrev cJ0_init_81219 : ByteArray := prog_29_method_53_code
def yJ0_init_81219 : MethodName := ⟨RJ0, "<init>", "(Ljava/lang/StringBuilder;)V"⟩
abbrev cJ0_length_8abf5 : ByteArray := prog_29_method_54_code
def yJ0_length_8abf5 : MethodName := ⟨RJ0, "length", "()I"⟩
abbrev cJ0_charAt_5068e : ByteArray := prog_29_method_56_code
def yJ0_charAt_5068e : MethodName := ⟨RJ0, "charAt", "(I)C"⟩
abbrev cJ0_indexOf_0f7a4 : ByteArray := prog_29_method_79_code
def yJ0_indexOf_0f7a4 : MethodName := ⟨RJ0, "indexOf", "(I)I"⟩
abbrev cJ0_indexOf_7cf53 : ByteArray := prog_29_method_80_code
def yJ0_indexOf_7cf53 : MethodName := ⟨RJ0, "indexOf", "(II)I"⟩
abbrev cJ0_getBytes_840e7 : ByteArray := prog_29_method_147_code
def yJ0_getBytes_840e7 : MethodName := ⟨RJ0, "getBytes", "([BIB)V"⟩
abbrev cJ0_init_db425 : ByteArray := prog_29_method_150_code
def yJ0_init_db425 : MethodName := ⟨RJ0, "<init>", "(Ljava/lang/AbstractStringBuilder;Ljava/lang/Void;)V"⟩
abbrev cJ0_coder_7d493 : ByteArray := prog_29_method_152_code
def yJ0_coder_7d493 : MethodName := ⟨RJ0, "coder", "()B"⟩
abbrev cJ0_isLatin1_aae02 : ByteArray := prog_29_method_154_code
def yJ0_isLatin1_aae02 : MethodName := ⟨RJ0, "isLatin1", "()Z"⟩
abbrev cJ0_checkIndex_df160 : ByteArray := prog_29_method_155_code
def yJ0_checkIndex_df160 : MethodName := ⟨RJ0, "checkIndex", "(II)V"⟩
abbrev cJ0_checkBoundsOffCount_cabcc : ByteArray := prog_29_method_157_code
def yJ0_checkBoundsOffCount_cabcc : MethodName := ⟨RJ0, "checkBoundsOffCount", "(III)I"⟩
abbrev cJ0_checkBoundsBeginEnd_23922 : ByteArray := prog_29_method_158_code
def yJ0_checkBoundsBeginEnd_23922 : MethodName := ⟨RJ0, "checkBoundsBeginEnd", "(III)V"⟩
abbrev RJ4 : String := "java/lang/StringBuilder"
def TJ4 : u_T := fun k => match k with
  | 0 => ("java/lang/AbstractStringBuilder", "value", "[B", false)
  | 1 => ("java/lang/AbstractStringBuilder", "coder", "B", false)
  | 2 => ("java/lang/AbstractStringBuilder", "maybeLatin1", "Z", false)
  | _ => ("java/lang/AbstractStringBuilder", "count", "I", false)
def tyJ4 : Nat → FieldType := fun k => match k with
  | 0 => .array .byte
  | 1 => .byte
  | 2 => .boolean
  | _ => .int
theorem nmJ4 : ∀ a, a < 4 → ∀ b, b < 4 → a ≠ b → (TJ4 a).2.1 ≠ (TJ4 b).2.1 := by decide +kernel
theorem tyJ4_ok : ∀ k, k < 4 → parseFieldDescriptor (TJ4 k).2.2.1 = some (tyJ4 k) := by decide +kernel
abbrev cJ4_init_da8c8 : ByteArray := prog_30_method_1_code
def yJ4_init_da8c8 : MethodName := ⟨RJ4, "<init>", "()V"⟩
abbrev cJ4_append_15ec4 : ByteArray := prog_30_method_7_code
def yJ4_append_15ec4 : MethodName := ⟨RJ4, "append", "(Ljava/lang/String;)Ljava/lang/StringBuilder;"⟩
abbrev cJ4_append_cf468 : ByteArray := prog_30_method_14_code
def yJ4_append_cf468 : MethodName := ⟨RJ4, "append", "(C)Ljava/lang/StringBuilder;"⟩
abbrev cJ4_append_bf812 : ByteArray := prog_30_method_15_code
def yJ4_append_bf812 : MethodName := ⟨RJ4, "append", "(I)Ljava/lang/StringBuilder;"⟩
abbrev cJ4_toString_0e30d : ByteArray := prog_30_method_42_code
def yJ4_toString_0e30d : MethodName := ⟨RJ4, "toString", "()Ljava/lang/String;"⟩
abbrev cJ4_charAt_5068e : ByteArray := prog_30_method_88_code
def yJ4_charAt_5068e : MethodName := ⟨RJ4, "charAt", "(I)C"⟩
abbrev cJ4_setLength_d00df : ByteArray := prog_30_method_89_code
def yJ4_setLength_d00df : MethodName := ⟨RJ4, "setLength", "(I)V"⟩
abbrev cJ4_length_8abf5 : ByteArray := prog_30_method_93_code
def yJ4_length_8abf5 : MethodName := ⟨RJ4, "length", "()I"⟩
abbrev RJx7c733 : String := "java/lang/StringIndexOutOfBoundsException"
def TJx7c733 : u_T := fun k => match k with
  | 0 => ("java/lang/Throwable", "backtrace", "Ljava/lang/Object;", false)
  | 1 => ("java/lang/Throwable", "detailMessage", "Ljava/lang/String;", false)
  | 2 => ("java/lang/Throwable", "cause", "Ljava/lang/Throwable;", false)
  | 3 => ("java/lang/Throwable", "stackTrace", "[Ljava/lang/StackTraceElement;", false)
  | 4 => ("java/lang/Throwable", "depth", "I", false)
  | _ => ("java/lang/Throwable", "suppressedExceptions", "Ljava/util/List;", false)
def tyJx7c733 : Nat → FieldType := fun k => match k with
  | 0 => .object "java/lang/Object"
  | 1 => .object "java/lang/String"
  | 2 => .object "java/lang/Throwable"
  | 3 => .array (.object "java/lang/StackTraceElement")
  | 4 => .int
  | _ => .object "java/util/List"
theorem nmJx7c733 : ∀ a, a < 6 → ∀ b, b < 6 → a ≠ b → (TJx7c733 a).2.1 ≠ (TJx7c733 b).2.1 := by decide +kernel
theorem tyJx7c733_ok : ∀ k, k < 6 → parseFieldDescriptor (TJx7c733 k).2.2.1 = some (tyJx7c733 k) := by decide +kernel
abbrev cJx7c733_init_d00df : ByteArray := prog_31_method_3_code
def yJx7c733_init_d00df : MethodName := ⟨RJx7c733, "<init>", "(I)V"⟩
abbrev RJ1 : String := "java/lang/StringLatin1"
def TJ1 : u_T := fun k => match k with
  | _ => ("", "", "", false)
def tyJ1 : Nat → FieldType := fun k => match k with
  | _ => .int
theorem nmJ1 : ∀ a, a < 0 → ∀ b, b < 0 → a ≠ b → (TJ1 a).2.1 ≠ (TJ1 b).2.1 := by decide +kernel
theorem tyJ1_ok : ∀ k, k < 0 → parseFieldDescriptor (TJ1 k).2.2.1 = some (tyJ1 k) := by decide +kernel
abbrev cJ1_charAt_3b067 : ByteArray := prog_32_method_2_code
def yJ1_charAt_3b067 : MethodName := ⟨RJ1, "charAt", "([BI)C"⟩
abbrev cJ1_canEncode_fc78d : ByteArray := prog_32_method_3_code
def yJ1_canEncode_fc78d : MethodName := ⟨RJ1, "canEncode", "(C)Z"⟩
abbrev cJ1_canEncode_9a6ad : ByteArray := prog_32_method_4_code
def yJ1_canEncode_9a6ad : MethodName := ⟨RJ1, "canEncode", "(I)Z"⟩
abbrev cJ1_indexOf_4cfef : ByteArray := prog_32_method_22_code
def yJ1_indexOf_4cfef : MethodName := ⟨RJ1, "indexOf", "([BIII)I"⟩
abbrev cJ1_indexOfChar_4cfef : ByteArray := prog_32_method_23_code
def yJ1_indexOfChar_4cfef : MethodName := ⟨RJ1, "indexOfChar", "([BIII)I"⟩
abbrev cJ1_fillNull_b72d1 : ByteArray := prog_32_method_48_code
def yJ1_fillNull_b72d1 : MethodName := ⟨RJ1, "fillNull", "([BII)V"⟩
abbrev cJ1_inflate_0e8fd : ByteArray := prog_32_method_50_code
def yJ1_inflate_0e8fd : MethodName := ⟨RJ1, "inflate", "([BI[BII)V"⟩
abbrev RJ2 : String := "java/lang/StringUTF16"
def TJ2 : u_T := fun k => match k with
  | _ => ("", "", "", false)
def tyJ2 : Nat → FieldType := fun k => match k with
  | _ => .int
theorem nmJ2 : ∀ a, a < 0 → ∀ b, b < 0 → a ≠ b → (TJ2 a).2.1 ≠ (TJ2 b).2.1 := by decide +kernel
theorem tyJ2_ok : ∀ k, k < 0 → parseFieldDescriptor (TJ2 k).2.2.1 = some (tyJ2 k) := by decide +kernel
abbrev cJ2_newBytesFor_77867 : ByteArray := prog_33_method_2_code
def yJ2_newBytesFor_77867 : MethodName := ⟨RJ2, "newBytesFor", "(I)[B"⟩
abbrev cJ2_newBytesLength_0f7a4 : ByteArray := prog_33_method_3_code
def yJ2_newBytesLength_0f7a4 : MethodName := ⟨RJ2, "newBytesLength", "(I)I"⟩
abbrev cJ2_putChar_b72d1 : ByteArray := prog_33_method_4_code
def yJ2_putChar_b72d1 : MethodName := ⟨RJ2, "putChar", "([BII)V"⟩
abbrev cJ2_getChar_3b067 : ByteArray := prog_33_method_5_code
def yJ2_getChar_3b067 : MethodName := ⟨RJ2, "getChar", "([BI)C"⟩
abbrev cJ2_length_9d52b : ByteArray := prog_33_method_6_code
def yJ2_length_9d52b : MethodName := ⟨RJ2, "length", "([B)I"⟩
abbrev cJ2_coderFromArrayLen_85cad : ByteArray := prog_33_method_15_code
def yJ2_coderFromArrayLen_85cad : MethodName := ⟨RJ2, "coderFromArrayLen", "([BI)B"⟩
abbrev cJ2_compress_39247 : ByteArray := prog_33_method_17_code
def yJ2_compress_39247 : MethodName := ⟨RJ2, "compress", "([BII)[B"⟩
abbrev cJ2_compress_5af95 : ByteArray := prog_33_method_22_code
def yJ2_compress_5af95 : MethodName := ⟨RJ2, "compress", "([BI[BII)I"⟩
abbrev cJ2_indexOf_4cfef : ByteArray := prog_33_method_40_code
def yJ2_indexOf_4cfef : MethodName := ⟨RJ2, "indexOf", "([BIII)I"⟩
abbrev cJ2_indexOfChar_4cfef : ByteArray := prog_33_method_47_code
def yJ2_indexOfChar_4cfef : MethodName := ⟨RJ2, "indexOfChar", "([BIII)I"⟩
abbrev cJ2_indexOfCharUnsafe_4cfef : ByteArray := prog_33_method_48_code
def yJ2_indexOfCharUnsafe_4cfef : MethodName := ⟨RJ2, "indexOfCharUnsafe", "([BIII)I"⟩
abbrev cJ2_indexOfSupplementary_4cfef : ByteArray := prog_33_method_49_code
def yJ2_indexOfSupplementary_4cfef : MethodName := ⟨RJ2, "indexOfSupplementary", "([BIII)I"⟩
abbrev cJ2_fillNull_b72d1 : ByteArray := prog_33_method_70_code
def yJ2_fillNull_b72d1 : MethodName := ⟨RJ2, "fillNull", "([BII)V"⟩
abbrev cJ2_putCharSB_b72d1 : ByteArray := prog_33_method_71_code
def yJ2_putCharSB_b72d1 : MethodName := ⟨RJ2, "putCharSB", "([BII)V"⟩
abbrev cJ2_getChars_46870 : ByteArray := prog_33_method_77_code
def yJ2_getChars_46870 : MethodName := ⟨RJ2, "getChars", "(III[B)I"⟩
abbrev cJ2_putCharsAt_cd4e5 : ByteArray := prog_33_method_81_code
def yJ2_putCharsAt_cd4e5 : MethodName := ⟨RJ2, "putCharsAt", "([BICCCC)I"⟩
abbrev cJ2_charAt_3b067 : ByteArray := prog_33_method_83_code
def yJ2_charAt_3b067 : MethodName := ⟨RJ2, "charAt", "([BI)C"⟩
abbrev cJ2_inflate_0e8fd : ByteArray := prog_33_method_86_code
def yJ2_inflate_0e8fd : MethodName := ⟨RJ2, "inflate", "([BI[BII)V"⟩
abbrev cJ2_getChars_ba4f3 : ByteArray := prog_33_method_89_code
def yJ2_getChars_ba4f3 : MethodName := ⟨RJ2, "getChars", "(II[B)I"⟩
abbrev cJ2_checkIndex_2214a : ByteArray := prog_33_method_91_code
def yJ2_checkIndex_2214a : MethodName := ⟨RJ2, "checkIndex", "(I[B)V"⟩
abbrev cJ2_checkBoundsBeginEnd_d044e : ByteArray := prog_33_method_93_code
def yJ2_checkBoundsBeginEnd_d044e : MethodName := ⟨RJ2, "checkBoundsBeginEnd", "(II[B)V"⟩
abbrev cJ2_checkBoundsOffCount_d044e : ByteArray := prog_33_method_94_code
def yJ2_checkBoundsOffCount_d044e : MethodName := ⟨RJ2, "checkBoundsOffCount", "(II[B)V"⟩
abbrev RJ10 : String := "java/lang/System"
def TJ10 : u_T := fun k => match k with
  | _ => ("", "", "", false)
def tyJ10 : Nat → FieldType := fun k => match k with
  | _ => .int
theorem nmJ10 : ∀ a, a < 0 → ∀ b, b < 0 → a ≠ b → (TJ10 a).2.1 ≠ (TJ10 b).2.1 := by decide +kernel
theorem tyJ10_ok : ∀ k, k < 0 → parseFieldDescriptor (TJ10 k).2.2.1 = some (tyJ10 k) := by decide +kernel
abbrev RJxfd54e : String := "java/lang/constant/Constable"
def TJxfd54e : u_T := fun k => match k with
  | _ => ("", "", "", false)
def tyJxfd54e : Nat → FieldType := fun k => match k with
  | _ => .int
theorem nmJxfd54e : ∀ a, a < 0 → ∀ b, b < 0 → a ≠ b → (TJxfd54e a).2.1 ≠ (TJxfd54e b).2.1 := by decide +kernel
theorem tyJxfd54e_ok : ∀ k, k < 0 → parseFieldDescriptor (TJxfd54e k).2.2.1 = some (tyJxfd54e k) := by decide +kernel
abbrev RJx3cf43 : String := "java/lang/constant/ConstantDesc"
def TJx3cf43 : u_T := fun k => match k with
  | _ => ("", "", "", false)
def tyJx3cf43 : Nat → FieldType := fun k => match k with
  | _ => .int
theorem nmJx3cf43 : ∀ a, a < 0 → ∀ b, b < 0 → a ≠ b → (TJx3cf43 a).2.1 ≠ (TJx3cf43 b).2.1 := by decide +kernel
theorem tyJx3cf43_ok : ∀ k, k < 0 → parseFieldDescriptor (TJx3cf43 k).2.2.1 = some (tyJx3cf43 k) := by decide +kernel
abbrev RJ7 : String := "java/util/Arrays"
def TJ7 : u_T := fun k => match k with
  | _ => ("", "", "", false)
def tyJ7 : Nat → FieldType := fun k => match k with
  | _ => .int
theorem nmJ7 : ∀ a, a < 0 → ∀ b, b < 0 → a ≠ b → (TJ7 a).2.1 ≠ (TJ7 b).2.1 := by decide +kernel
theorem tyJ7_ok : ∀ k, k < 0 → parseFieldDescriptor (TJ7 k).2.2.1 = some (tyJ7 k) := by decide +kernel
abbrev cJ7_rangeCheck_23922 : ByteArray := prog_39_method_30_code
def yJ7_rangeCheck_23922 : MethodName := ⟨RJ7, "rangeCheck", "(III)V"⟩
abbrev cJ7_fill_eb02e : ByteArray := prog_39_method_110_code
def yJ7_fill_eb02e : MethodName := ⟨RJ7, "fill", "([BIIB)V"⟩
abbrev cJ7_copyOf_9075b : ByteArray := prog_39_method_121_code
def yJ7_copyOf_9075b : MethodName := ⟨RJ7, "copyOf", "([BI)[B"⟩
abbrev cJ7_checkLength_df160 : ByteArray := prog_39_method_131_code
def yJ7_checkLength_df160 : MethodName := ⟨RJ7, "checkLength", "(II)V"⟩
abbrev cJ7_copyOfRange_39247 : ByteArray := prog_39_method_132_code
def yJ7_copyOfRange_39247 : MethodName := ⟨RJ7, "copyOfRange", "([BII)[B"⟩
abbrev cJ7_copyOfRangeByte_39247 : ByteArray := prog_39_method_133_code
def yJ7_copyOfRangeByte_39247 : MethodName := ⟨RJ7, "copyOfRangeByte", "([BII)[B"⟩
abbrev RJ8 : String := "jdk/internal/util/ArraysSupport"
def TJ8 : u_T := fun k => match k with
  | _ => ("", "", "", false)
def tyJ8 : Nat → FieldType := fun k => match k with
  | _ => .int
theorem nmJ8 : ∀ a, a < 0 → ∀ b, b < 0 → a ≠ b → (TJ8 a).2.1 ≠ (TJ8 b).2.1 := by decide +kernel
theorem tyJ8_ok : ∀ k, k < 0 → parseFieldDescriptor (TJ8 k).2.2.1 = some (tyJ8 k) := by decide +kernel
abbrev cJ8_newLength_cabcc : ByteArray := prog_41_method_27_code
def yJ8_newLength_cabcc : MethodName := ⟨RJ8, "newLength", "(III)I"⟩
abbrev cJ8_hugeLength_7cf53 : ByteArray := prog_41_method_28_code
def yJ8_hugeLength_7cf53 : MethodName := ⟨RJ8, "hugeLength", "(II)I"⟩
abbrev RJ3 : String := "jdk/internal/util/Preconditions"
def TJ3 : u_T := fun k => match k with
  | _ => ("", "", "", false)
def tyJ3 : Nat → FieldType := fun k => match k with
  | _ => .int
theorem nmJ3 : ∀ a, a < 0 → ∀ b, b < 0 → a ≠ b → (TJ3 a).2.1 ≠ (TJ3 b).2.1 := by decide +kernel
theorem tyJ3_ok : ∀ k, k < 0 → parseFieldDescriptor (TJ3 k).2.2.1 = some (tyJ3 k) := by decide +kernel
abbrev cJ3_checkIndex_8e157 : ByteArray := prog_42_method_11_code
def yJ3_checkIndex_8e157 : MethodName := ⟨RJ3, "checkIndex", "(IILjava/util/function/BiFunction;)I"⟩
abbrev cJ3_checkFromToIndex_8c36e : ByteArray := prog_42_method_12_code
def yJ3_checkFromToIndex_8c36e : MethodName := ⟨RJ3, "checkFromToIndex", "(IIILjava/util/function/BiFunction;)I"⟩
abbrev cJ3_checkFromIndexSize_8c36e : ByteArray := prog_42_method_13_code
def yJ3_checkFromIndexSize_8c36e : MethodName := ⟨RJ3, "checkFromIndexSize", "(IIILjava/util/function/BiFunction;)I"⟩
abbrev RL : String := "RainCellarLaw"
abbrev cL_cell : ByteArray := method_2_code
def yL_cell : MethodName := ⟨RL, "cell", "([II)I"⟩
abbrev cL_pick : ByteArray := method_3_code
def yL_pick : MethodName := ⟨RL, "pick", "([III)I"⟩
abbrev cL_storm : ByteArray := method_4_code
def yL_storm : MethodName := ⟨RL, "storm", "(LRainCellar;II)I"⟩
abbrev cL_barrel : ByteArray := method_5_code
def yL_barrel : MethodName := ⟨RL, "barrel", "(LRainCellar;I)I"⟩
abbrev cL_takeAway : ByteArray := method_6_code
def yL_takeAway : MethodName := ⟨RL, "takeAway", "(LRainCellar;I)I"⟩
abbrev cL_pour : ByteArray := method_7_code
def yL_pour : MethodName := ⟨RL, "pour", "(LRainCellar;III)I"⟩
abbrev cL_hail : ByteArray := method_8_code
def yL_hail : MethodName := ⟨RL, "hail", "(LRainCellar;II)I"⟩
abbrev cL_sommelier : ByteArray := method_9_code
def yL_sommelier : MethodName := ⟨RL, "sommelier", "(LRainCellar;IZ)I"⟩
abbrev cL_leave : ByteArray := method_10_code
def yL_leave : MethodName := ⟨RL, "leave", "(LRainCellar;I)I"⟩
abbrev cL_drink : ByteArray := method_11_code
def yL_drink : MethodName := ⟨RL, "drink", "(LRainCellar;I)I"⟩
abbrev cL_clear : ByteArray := method_12_code
def yL_clear : MethodName := ⟨RL, "clear", "(LRainCellar;I)I"⟩
abbrev cL_roofOf : ByteArray := method_13_code
def yL_roofOf : MethodName := ⟨RL, "roofOf", "(LRainCellar;II)I"⟩
abbrev cL_barrelOf : ByteArray := method_14_code
def yL_barrelOf : MethodName := ⟨RL, "barrelOf", "(LRainCellar;II)I"⟩
abbrev cL_note : ByteArray := method_15_code
def yL_note : MethodName := ⟨RL, "note", "(LRainCellar;I)I"⟩
abbrev cL_noteAgain : ByteArray := method_16_code
def yL_noteAgain : MethodName := ⟨RL, "noteAgain", "(LRainCellar;I)I"⟩
abbrev cL_noteIn : ByteArray := method_17_code
def yL_noteIn : MethodName := ⟨RL, "noteIn", "(LRainCellar;II)I"⟩
abbrev cL_notices : ByteArray := method_18_code
def yL_notices : MethodName := ⟨RL, "notices", "(LRainCellar;II)I"⟩
abbrev cL_noticing : ByteArray := method_19_code
def yL_noticing : MethodName := ⟨RL, "noticing", "(LRainCellar;I)I"⟩
abbrev cL_hidden : ByteArray := method_20_code
def yL_hidden : MethodName := ⟨RL, "hidden", "(LRainCellar;I)I"⟩
abbrev cL_hiddenAgain : ByteArray := method_21_code
def yL_hiddenAgain : MethodName := ⟨RL, "hiddenAgain", "(LRainCellar;I)I"⟩
abbrev cL_wouldCatch : ByteArray := method_22_code
def yL_wouldCatch : MethodName := ⟨RL, "wouldCatch", "(LRainCellar;I)I"⟩
abbrev cL_wouldLose : ByteArray := method_23_code
def yL_wouldLose : MethodName := ⟨RL, "wouldLose", "(LRainCellar;I)I"⟩
abbrev cL_vintage : ByteArray := method_24_code
def yL_vintage : MethodName := ⟨RL, "vintage", "(LRainCellar;I)I"⟩
abbrev cL_stormOf : ByteArray := method_25_code
def yL_stormOf : MethodName := ⟨RL, "stormOf", "(LRainCellar;II)I"⟩
abbrev cL_canPour : ByteArray := method_26_code
def yL_canPour : MethodName := ⟨RL, "canPour", "(LRainCellar;II)I"⟩
abbrev cL_ranked : ByteArray := method_27_code
def yL_ranked : MethodName := ⟨RL, "ranked", "(LRainCellar;II)I"⟩
abbrev cL_append : ByteArray := method_28_code
def yL_append : MethodName := ⟨RL, "append", "(LRainCellar;C)I"⟩
abbrev cL_commands : ByteArray := method_29_code
def yL_commands : MethodName := ⟨RL, "commands", "(LRainCellar;)I"⟩
abbrev cL_line : ByteArray := method_31_code
def yL_line : MethodName := ⟨RL, "line", "(LRainCellar;I)I"⟩
abbrev cL_character : ByteArray := method_32_code
def yL_character : MethodName := ⟨RL, "character", "(LRainCellar;I)I"⟩
abbrev cL_meanNote : ByteArray := method_33_code
def yL_meanNote : MethodName := ⟨RL, "meanNote", "(LRainCellar;)D"⟩
abbrev cL_hailShare : ByteArray := method_34_code
def yL_hailShare : MethodName := ⟨RL, "hailShare", "(LRainCellar;)F"⟩
abbrev cL_account : ByteArray := method_35_code
def yL_account : MethodName := ⟨RL, "account", "(LRainCellar;I)I"⟩
abbrev cL_undo : ByteArray := method_36_code
def yL_undo : MethodName := ⟨RL, "undo", "(LRainCellar;)I"⟩
abbrev cL_restore : ByteArray := method_37_code
def yL_restore : MethodName := ⟨RL, "restore", "(LRainCellar;)I"⟩
abbrev cL_reads : ByteArray := method_38_code
def yL_reads : MethodName := ⟨RL, "reads", "(LRainCellar;Ljava/lang/String;)I"⟩
abbrev cL_law : ByteArray := code
def yL_law : MethodName := ⟨RL, "law", "([I)Z"⟩
abbrev cL_does : ByteArray := method_42_code
def yL_does : MethodName := ⟨RL, "does", "([IIILRainCellar;II)I"⟩
abbrev cL_sum : ByteArray := method_43_code
def yL_sum : MethodName := ⟨RL, "sum", "(LRainCellar;)J"⟩
abbrev cL_isBarrel : ByteArray := method_44_code
def yL_isBarrel : MethodName := ⟨RL, "isBarrel", "(LRainCellar;II)Z"⟩
abbrev cL_isWhole : ByteArray := method_45_code
def yL_isWhole : MethodName := ⟨RL, "isWhole", "(LRainCellar;I)Z"⟩
abbrev cL_measure : ByteArray := method_46_code
def yL_measure : MethodName := ⟨RL, "measure", "(LRainCellar;II)I"⟩
abbrev cL_isKept : ByteArray := method_47_code
def yL_isKept : MethodName := ⟨RL, "isKept", "(LRainCellar;[JI)Z"⟩
abbrev vwCl : List vw_C := [(RJ0, TJ0, 4), (RJ4, TJ4, 4), (RJx00060, TJx00060, 6), (RJx7c733, TJx7c733, 6), (RX0, TX0, 6), (RX1, TX1, 14), (RX2, TX2, 3), (RX3, TX3, 3), (RX4, TX4, 3), (RX5, TX5, 3), (RX6, TX6, 7), (RX7, TX7, 2), (RX8, TX8, 9)]

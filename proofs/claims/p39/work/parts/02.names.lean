/-! ===== BEGIN words of one list among another's, by their places ===== -/
theorem goodIn_r {big : List Cond} (ws : List Cond) (ps : List Nat) (hp : ws = ps.filterMap (fun i => big[i]?)) (h : ws.all goodWord = true) : GoodIn big ws := by
  intro w hw
  have h1 := List.all_eq_true.mp h w hw
  rw [hp] at hw
  obtain ⟨i, -, hi⟩ := List.mem_filterMap.mp hw
  have hm : w ∈ big := by first | exact List.mem_of_getElem? hi | exact List.getElem?_mem hi
  exact ⟨hm, good_of_word h1⟩
theorem goodIn_app {big a b : List Cond} (ha : GoodIn big a) (hb : GoodIn big b) : GoodIn big (a ++ b) := fun w h => (List.mem_append.mp h).elim (ha w) (hb w)
theorem goodIn_ca {big a b : List Cond} {c : Cond} (ha : GoodIn big (c :: a)) (hb : GoodIn big b) : GoodIn big (c :: (a ++ b)) := fun w h => (List.mem_cons.mp h).elim (fun e => ha w (List.mem_cons.mpr (Or.inl e))) (fun h => (List.mem_append.mp h).elim (fun h => ha w (List.mem_cons.mpr (Or.inr h))) (hb w))
theorem goodIn_sub {big ws : List Cond} (hm : ∀ w ∈ ws, w ∈ big) (h : ws.all goodWord = true) : GoodIn big ws := fun w hw => ⟨hm w hw, good_of_word (List.all_eq_true.mp h w hw)⟩
/-! ===== END ===== -/
/-! ===== BEGIN printed: names, fields, word lists, decode rows ===== -/
def RX0 : String := "BowlsGreen$Club"
def TX0 : u_T := fun k => match k with
  | 0 => ("BowlsGreen$Club", "shots", "I", false)
  | 1 => ("BowlsGreen$Club", "ends", "I", false)
  | 2 => ("BowlsGreen$Club", "coins", "I", false)
  | _ => ("BowlsGreen$Club", "teas", "I", false)
def tyX0 : Nat → FieldType := fun k => match k with
  | 0 => .int
  | 1 => .int
  | 2 => .int
  | _ => .int
abbrev wsX00 : List Cond := u_ws RX0 TX0 4
theorem nmX0 : ∀ a, a < 4 → ∀ b, b < 4 → a ≠ b → (TX0 a).2.1 ≠ (TX0 b).2.1 := by decide +kernel
theorem tyX0_ok : ∀ k, k < 4 → parseFieldDescriptor (TX0 k).2.2.1 = some (tyX0 k) := by decide +kernel
abbrev cX0_init : ByteArray := prog_2_method_1_code
def yX0_init : MethodName := ⟨RX0, "<init>", "()V"⟩
abbrev cX0_reset : ByteArray := prog_2_method_2_code
def yX0_reset : MethodName := ⟨RX0, "reset", "()V"⟩
abbrev cX0_become : ByteArray := prog_2_method_3_code
def yX0_become : MethodName := ⟨RX0, "become", "(LBowlsGreen$Club;)V"⟩
def RX1 : String := "BowlsGreen$Green"
def TX1 : u_T := fun k => match k with
  | 0 => ("BowlsGreen$Green", "rinks", "[LBowlsGreen$Rink;", true)
  | 1 => ("BowlsGreen$Green", "woods", "[LBowlsGreen$Wood;", true)
  | 2 => ("BowlsGreen$Green", "clubs", "[LBowlsGreen$Club;", true)
  | 3 => ("BowlsGreen$Green", "rinkCount", "I", false)
  | 4 => ("BowlsGreen$Green", "woodCount", "I", false)
  | 5 => ("BowlsGreen$Green", "hour", "I", false)
  | 6 => ("BowlsGreen$Green", "rain", "I", false)
  | 7 => ("BowlsGreen$Green", "sun", "I", false)
  | 8 => ("BowlsGreen$Green", "cups", "I", false)
  | 9 => ("BowlsGreen$Green", "drunk", "I", false)
  | _ => ("BowlsGreen$Green", "swept", "I", false)
def tyX1 : Nat → FieldType := fun k => match k with
  | 0 => .array (.object "BowlsGreen$Rink")
  | 1 => .array (.object "BowlsGreen$Wood")
  | 2 => .array (.object "BowlsGreen$Club")
  | 3 => .int
  | 4 => .int
  | 5 => .int
  | 6 => .int
  | 7 => .int
  | 8 => .int
  | 9 => .int
  | _ => .int
abbrev wsX10 : List Cond := u_ws RX1 TX1 11
theorem nmX1 : ∀ a, a < 11 → ∀ b, b < 11 → a ≠ b → (TX1 a).2.1 ≠ (TX1 b).2.1 := by decide +kernel
theorem tyX1_ok : ∀ k, k < 11 → parseFieldDescriptor (TX1 k).2.2.1 = some (tyX1 k) := by decide +kernel
abbrev cX1_init : ByteArray := prog_3_method_1_code
def yX1_init : MethodName := ⟨RX1, "<init>", "()V"⟩
abbrev cX1_reset : ByteArray := prog_3_method_2_code
def yX1_reset : MethodName := ⟨RX1, "reset", "()V"⟩
abbrev cX1_become : ByteArray := prog_3_method_3_code
def yX1_become : MethodName := ⟨RX1, "become", "(LBowlsGreen$Green;)V"⟩
abbrev cX1_isRink : ByteArray := prog_3_method_4_code
def yX1_isRink : MethodName := ⟨RX1, "isRink", "(I)Z"⟩
abbrev cX1_isWood : ByteArray := prog_3_method_5_code
def yX1_isWood : MethodName := ⟨RX1, "isWood", "(I)Z"⟩
abbrev cX1_lowestRinkWithin : ByteArray := prog_3_method_6_code
def yX1_lowestRinkWithin : MethodName := ⟨RX1, "lowestRinkWithin", "(II)I"⟩
abbrev cX1_rinkInOrder : ByteArray := prog_3_method_7_code
def yX1_rinkInOrder : MethodName := ⟨RX1, "rinkInOrder", "(I)I"⟩
abbrev cX1_landing : ByteArray := prog_3_method_8_code
def yX1_landing : MethodName := ⟨RX1, "landing", "(IIIIZ)I"⟩
abbrev cX1_isTaken : ByteArray := prog_3_method_9_code
def yX1_isTaken : MethodName := ⟨RX1, "isTaken", "(IIII)Z"⟩
abbrev cX1_woodInOrder : ByteArray := prog_3_method_10_code
def yX1_woodInOrder : MethodName := ⟨RX1, "woodInOrder", "(II)I"⟩
abbrev cX1_woodsBefore : ByteArray := prog_3_method_11_code
def yX1_woodsBefore : MethodName := ⟨RX1, "woodsBefore", "(II)I"⟩
abbrev cX1_countShots : ByteArray := prog_3_method_12_code
def yX1_countShots : MethodName := ⟨RX1, "countShots", "(I)I"⟩
abbrev cX1_leastDistance : ByteArray := prog_3_method_13_code
def yX1_leastDistance : MethodName := ⟨RX1, "leastDistance", "(II)I"⟩
abbrev cX1_woodsNearerThan : ByteArray := prog_3_method_14_code
def yX1_woodsNearerThan : MethodName := ⟨RX1, "woodsNearerThan", "(III)I"⟩
abbrev cX1_countShotsInOrder : ByteArray := prog_3_method_15_code
def yX1_countShotsInOrder : MethodName := ⟨RX1, "countShotsInOrder", "(I)I"⟩
abbrev cX1_isMatched : ByteArray := prog_3_method_16_code
def yX1_isMatched : MethodName := ⟨RX1, "isMatched", "(ILBowlsGreen$Wood;)Z"⟩
abbrev cX1_bringWoodsToShed : ByteArray := prog_3_method_17_code
def yX1_bringWoodsToShed : MethodName := ⟨RX1, "bringWoodsToShed", "(I)V"⟩
abbrev cX1_woodsOn : ByteArray := prog_3_method_18_code
def yX1_woodsOn : MethodName := ⟨RX1, "woodsOn", "(II)I"⟩
abbrev cX1_woodsOfClub : ByteArray := prog_3_method_19_code
def yX1_woodsOfClub : MethodName := ⟨RX1, "woodsOfClub", "(I)I"⟩
abbrev cX1_woodsOfClubInShed : ByteArray := prog_3_method_20_code
def yX1_woodsOfClubInShed : MethodName := ⟨RX1, "woodsOfClubInShed", "(I)I"⟩
abbrev cX1_woodsInShed : ByteArray := prog_3_method_21_code
def yX1_woodsInShed : MethodName := ⟨RX1, "woodsInShed", "()I"⟩
abbrev cX1_woodsBowled : ByteArray := prog_3_method_22_code
def yX1_woodsBowled : MethodName := ⟨RX1, "woodsBowled", "()I"⟩
abbrev cX1_endsPlayed : ByteArray := prog_3_method_23_code
def yX1_endsPlayed : MethodName := ⟨RX1, "endsPlayed", "()I"⟩
abbrev cX1_endsClosed : ByteArray := prog_3_method_24_code
def yX1_endsClosed : MethodName := ⟨RX1, "endsClosed", "()I"⟩
abbrev cX1_allWet : ByteArray := prog_3_method_25_code
def yX1_allWet : MethodName := ⟨RX1, "allWet", "()I"⟩
abbrev cX1_allCasts : ByteArray := prog_3_method_26_code
def yX1_allCasts : MethodName := ⟨RX1, "allCasts", "()I"⟩
abbrev cX1_drink : ByteArray := prog_3_method_27_code
def yX1_drink : MethodName := ⟨RX1, "drink", "(I)V"⟩
abbrev cX1_passHour : ByteArray := prog_3_method_28_code
def yX1_passHour : MethodName := ⟨RX1, "passHour", "()V"⟩
abbrev cX1_wetAfter : ByteArray := prog_3_method_29_code
def yX1_wetAfter : MethodName := ⟨RX1, "wetAfter", "(I)I"⟩
abbrev cX1_wetAhead : ByteArray := prog_3_method_30_code
def yX1_wetAhead : MethodName := ⟨RX1, "wetAhead", "(II)I"⟩
abbrev cX1_castsAhead : ByteArray := prog_3_method_31_code
def yX1_castsAhead : MethodName := ⟨RX1, "castsAhead", "(II)I"⟩
abbrev cX1_hoursUntilDry : ByteArray := prog_3_method_32_code
def yX1_hoursUntilDry : MethodName := ⟨RX1, "hoursUntilDry", "(I)I"⟩
def RX2 : String := "BowlsGreen$Orders"
def TX2 : u_T := fun k => match k with
  | 0 => ("BowlsGreen$Orders", "signs", "[I", true)
  | 1 => ("BowlsGreen$Orders", "numbers", "[I", true)
  | 2 => ("BowlsGreen$Orders", "count", "I", false)
  | _ => ("BowlsGreen$Orders", "position", "I", false)
def tyX2 : Nat → FieldType := fun k => match k with
  | 0 => .array .int
  | 1 => .array .int
  | 2 => .int
  | _ => .int
abbrev wsX20 : List Cond := u_ws RX2 TX2 4
theorem nmX2 : ∀ a, a < 4 → ∀ b, b < 4 → a ≠ b → (TX2 a).2.1 ≠ (TX2 b).2.1 := by decide +kernel
theorem tyX2_ok : ∀ k, k < 4 → parseFieldDescriptor (TX2 k).2.2.1 = some (tyX2 k) := by decide +kernel
abbrev cX2_init : ByteArray := prog_4_method_1_code
def yX2_init : MethodName := ⟨RX2, "<init>", "()V"⟩
abbrev cX2_number : ByteArray := prog_4_method_2_code
def yX2_number : MethodName := ⟨RX2, "number", "(II)I"⟩
abbrev cX2_read : ByteArray := prog_4_method_3_code
def yX2_read : MethodName := ⟨RX2, "read", "(Ljava/lang/StringBuilder;)Z"⟩
abbrev cX2_readOrder : ByteArray := prog_4_method_4_code
def yX2_readOrder : MethodName := ⟨RX2, "readOrder", "(Ljava/lang/StringBuilder;I)Z"⟩
abbrev cX2_formOf : ByteArray := prog_4_method_5_code
def yX2_formOf : MethodName := ⟨RX2, "formOf", "(I)Ljava/lang/String;"⟩
abbrev cX2_isKept : ByteArray := prog_4_method_6_code
def yX2_isKept : MethodName := ⟨RX2, "isKept", "(I)Z"⟩
abbrev cX2_readPart : ByteArray := prog_4_method_7_code
def yX2_readPart : MethodName := ⟨RX2, "readPart", "(Ljava/lang/StringBuilder;II)Z"⟩
abbrev cX2_readDigits : ByteArray := prog_4_method_8_code
def yX2_readDigits : MethodName := ⟨RX2, "readDigits", "(Ljava/lang/StringBuilder;II)Z"⟩
abbrev cX2_isDigit : ByteArray := prog_4_method_9_code
def yX2_isDigit : MethodName := ⟨RX2, "isDigit", "(C)Z"⟩
abbrev cX2_readSide : ByteArray := prog_4_method_10_code
def yX2_readSide : MethodName := ⟨RX2, "readSide", "(Ljava/lang/StringBuilder;I)Z"⟩
abbrev cX2_readSign : ByteArray := prog_4_method_11_code
def yX2_readSign : MethodName := ⟨RX2, "readSign", "(Ljava/lang/StringBuilder;I)Z"⟩
def RX3 : String := "BowlsGreen$Past"
def TX3 : u_T := fun k => match k with
  | 0 => ("BowlsGreen$Past", "greens", "[LBowlsGreen$Green;", true)
  | 1 => ("BowlsGreen$Past", "free", "I", false)
  | _ => ("BowlsGreen$Past", "count", "I", false)
def tyX3 : Nat → FieldType := fun k => match k with
  | 0 => .array (.object "BowlsGreen$Green")
  | 1 => .int
  | _ => .int
abbrev wsX30 : List Cond := u_ws RX3 TX3 3
theorem nmX3 : ∀ a, a < 3 → ∀ b, b < 3 → a ≠ b → (TX3 a).2.1 ≠ (TX3 b).2.1 := by decide +kernel
theorem tyX3_ok : ∀ k, k < 3 → parseFieldDescriptor (TX3 k).2.2.1 = some (tyX3 k) := by decide +kernel
abbrev cX3_init : ByteArray := prog_5_method_1_code
def yX3_init : MethodName := ⟨RX3, "<init>", "()V"⟩
abbrev cX3_forget : ByteArray := prog_5_method_2_code
def yX3_forget : MethodName := ⟨RX3, "forget", "()V"⟩
abbrev cX3_note : ByteArray := prog_5_method_3_code
def yX3_note : MethodName := ⟨RX3, "note", "(LBowlsGreen$Green;)V"⟩
abbrev cX3_putBack : ByteArray := prog_5_method_4_code
def yX3_putBack : MethodName := ⟨RX3, "putBack", "(LBowlsGreen$Green;)V"⟩
abbrev cX3_keep : ByteArray := prog_5_method_5_code
def yX3_keep : MethodName := ⟨RX3, "keep", "()V"⟩
abbrev cX3_takeBack : ByteArray := prog_5_method_6_code
def yX3_takeBack : MethodName := ⟨RX3, "takeBack", "(LBowlsGreen$Green;)V"⟩
def RX4 : String := "BowlsGreen$Reasons"
def TX4 : u_T := fun k => match k with
  | 0 => ("BowlsGreen$Reasons", "numbers", "[I", true)
  | 1 => ("BowlsGreen$Reasons", "details", "[I", true)
  | _ => ("BowlsGreen$Reasons", "count", "I", false)
def tyX4 : Nat → FieldType := fun k => match k with
  | 0 => .array .int
  | 1 => .array .int
  | _ => .int
abbrev wsX40 : List Cond := u_ws RX4 TX4 3
theorem nmX4 : ∀ a, a < 3 → ∀ b, b < 3 → a ≠ b → (TX4 a).2.1 ≠ (TX4 b).2.1 := by decide +kernel
theorem tyX4_ok : ∀ k, k < 3 → parseFieldDescriptor (TX4 k).2.2.1 = some (tyX4 k) := by decide +kernel
abbrev cX4_init : ByteArray := prog_6_method_1_code
def yX4_init : MethodName := ⟨RX4, "<init>", "()V"⟩
abbrev cX4_empty : ByteArray := prog_6_method_2_code
def yX4_empty : MethodName := ⟨RX4, "empty", "()V"⟩
abbrev cX4_put : ByteArray := prog_6_method_3_code
def yX4_put : MethodName := ⟨RX4, "put", "(II)V"⟩
abbrev cX4_tell : ByteArray := prog_6_method_4_code
def yX4_tell : MethodName := ⟨RX4, "tell", "(IZ)I"⟩
def RX5 : String := "BowlsGreen$Rink"
def TX5 : u_T := fun k => match k with
  | 0 => ("BowlsGreen$Rink", "first", "I", false)
  | 1 => ("BowlsGreen$Rink", "last", "I", false)
  | 2 => ("BowlsGreen$Rink", "wet", "I", false)
  | 3 => ("BowlsGreen$Rink", "casts", "I", false)
  | 4 => ("BowlsGreen$Rink", "jack", "I", false)
  | 5 => ("BowlsGreen$Rink", "starter", "I", false)
  | 6 => ("BowlsGreen$Rink", "turn", "I", false)
  | 7 => ("BowlsGreen$Rink", "closed", "I", false)
  | _ => ("BowlsGreen$Rink", "bowled", "[I", true)
def tyX5 : Nat → FieldType := fun k => match k with
  | 0 => .int
  | 1 => .int
  | 2 => .int
  | 3 => .int
  | 4 => .int
  | 5 => .int
  | 6 => .int
  | 7 => .int
  | _ => .array .int
abbrev wsX50 : List Cond := u_ws RX5 TX5 9
theorem nmX5 : ∀ a, a < 9 → ∀ b, b < 9 → a ≠ b → (TX5 a).2.1 ≠ (TX5 b).2.1 := by decide +kernel
theorem tyX5_ok : ∀ k, k < 9 → parseFieldDescriptor (TX5 k).2.2.1 = some (tyX5 k) := by decide +kernel
abbrev cX5_init : ByteArray := prog_7_method_1_code
def yX5_init : MethodName := ⟨RX5, "<init>", "()V"⟩
abbrev cX5_lay : ByteArray := prog_7_method_2_code
def yX5_lay : MethodName := ⟨RX5, "lay", "(II)V"⟩
abbrev cX5_become : ByteArray := prog_7_method_3_code
def yX5_become : MethodName := ⟨RX5, "become", "(LBowlsGreen$Rink;)V"⟩
abbrev cX5_holds : ByteArray := prog_7_method_4_code
def yX5_holds : MethodName := ⟨RX5, "holds", "(I)Z"⟩
abbrev cX5_isPlayed : ByteArray := prog_7_method_5_code
def yX5_isPlayed : MethodName := ⟨RX5, "isPlayed", "()Z"⟩
abbrev cX5_startEnd : ByteArray := prog_7_method_6_code
def yX5_startEnd : MethodName := ⟨RX5, "startEnd", "(I)V"⟩
abbrev cX5_finishEnd : ByteArray := prog_7_method_7_code
def yX5_finishEnd : MethodName := ⟨RX5, "finishEnd", "()V"⟩
abbrev cX5_distance : ByteArray := prog_7_method_8_code
def yX5_distance : MethodName := ⟨RX5, "distance", "(II)I"⟩
abbrev cX5_castsAfter : ByteArray := prog_7_method_9_code
def yX5_castsAfter : MethodName := ⟨RX5, "castsAfter", "(II)I"⟩
def RX6 : String := "BowlsGreen$Wood"
def TX6 : u_T := fun k => match k with
  | 0 => ("BowlsGreen$Wood", "club", "I", false)
  | 1 => ("BowlsGreen$Wood", "bias", "I", false)
  | 2 => ("BowlsGreen$Wood", "state", "I", false)
  | 3 => ("BowlsGreen$Wood", "rink", "I", false)
  | 4 => ("BowlsGreen$Wood", "column", "I", false)
  | 5 => ("BowlsGreen$Wood", "length", "I", false)
  | 6 => ("BowlsGreen$Wood", "distance", "I", false)
  | _ => ("BowlsGreen$Wood", "bowled", "I", false)
def tyX6 : Nat → FieldType := fun k => match k with
  | 0 => .int
  | 1 => .int
  | 2 => .int
  | 3 => .int
  | 4 => .int
  | 5 => .int
  | 6 => .int
  | _ => .int
abbrev wsX60 : List Cond := u_ws RX6 TX6 8
theorem nmX6 : ∀ a, a < 8 → ∀ b, b < 8 → a ≠ b → (TX6 a).2.1 ≠ (TX6 b).2.1 := by decide +kernel
theorem tyX6_ok : ∀ k, k < 8 → parseFieldDescriptor (TX6 k).2.2.1 = some (tyX6 k) := by decide +kernel
abbrev cX6_init : ByteArray := prog_8_method_1_code
def yX6_init : MethodName := ⟨RX6, "<init>", "()V"⟩
abbrev cX6_make : ByteArray := prog_8_method_2_code
def yX6_make : MethodName := ⟨RX6, "make", "(II)V"⟩
abbrev cX6_become : ByteArray := prog_8_method_3_code
def yX6_become : MethodName := ⟨RX6, "become", "(LBowlsGreen$Wood;)V"⟩
abbrev cX6_liesOn : ByteArray := prog_8_method_4_code
def yX6_liesOn : MethodName := ⟨RX6, "liesOn", "(I)Z"⟩
def RX7 : String := "BowlsGreen"
def TX7 : u_T := fun k => match k with
  | 0 => ("BowlsGreen", "green", "LBowlsGreen$Green;", true)
  | 1 => ("BowlsGreen", "saved", "LBowlsGreen$Green;", true)
  | 2 => ("BowlsGreen", "isSaved", "Z", false)
  | 3 => ("BowlsGreen", "past", "LBowlsGreen$Past;", true)
  | 4 => ("BowlsGreen", "input", "Ljava/lang/StringBuilder;", true)
  | 5 => ("BowlsGreen", "orders", "LBowlsGreen$Orders;", true)
  | 6 => ("BowlsGreen", "faultPosition", "I", false)
  | 7 => ("BowlsGreen", "reasons", "LBowlsGreen$Reasons;", true)
  | _ => ("BowlsGreen", "line", "Ljava/lang/StringBuilder;", true)
def tyX7 : Nat → FieldType := fun k => match k with
  | 0 => .object "BowlsGreen$Green"
  | 1 => .object "BowlsGreen$Green"
  | 2 => .boolean
  | 3 => .object "BowlsGreen$Past"
  | 4 => .object "java/lang/StringBuilder"
  | 5 => .object "BowlsGreen$Orders"
  | 6 => .int
  | 7 => .object "BowlsGreen$Reasons"
  | _ => .object "java/lang/StringBuilder"
abbrev wsX70 : List Cond := u_ws RX7 TX7 9
theorem nmX7 : ∀ a, a < 9 → ∀ b, b < 9 → a ≠ b → (TX7 a).2.1 ≠ (TX7 b).2.1 := by decide +kernel
theorem tyX7_ok : ∀ k, k < 9 → parseFieldDescriptor (TX7 k).2.2.1 = some (tyX7 k) := by decide +kernel
abbrev cX7_init : ByteArray := prog_1_method_1_code
def yX7_init : MethodName := ⟨RX7, "<init>", "()V"⟩
abbrev cX7_clear : ByteArray := prog_1_method_2_code
def yX7_clear : MethodName := ⟨RX7, "clear", "()I"⟩
abbrev cX7_append : ByteArray := prog_1_method_3_code
def yX7_append : MethodName := ⟨RX7, "append", "(C)I"⟩
abbrev cX7_rink : ByteArray := prog_1_method_4_code
def yX7_rink : MethodName := ⟨RX7, "rink", "(II)I"⟩
abbrev cX7_wood : ByteArray := prog_1_method_5_code
def yX7_wood : MethodName := ⟨RX7, "wood", "(II)I"⟩
abbrev cX7_begin : ByteArray := prog_1_method_6_code
def yX7_begin : MethodName := ⟨RX7, "begin", "(II)I"⟩
abbrev cX7_bowl : ByteArray := prog_1_method_7_code
def yX7_bowl : MethodName := ⟨RX7, "bowl", "(IIIIZ)I"⟩
abbrev cX7_close : ByteArray := prog_1_method_8_code
def yX7_close : MethodName := ⟨RX7, "close", "(I)I"⟩
abbrev cX7_sweep : ByteArray := prog_1_method_9_code
def yX7_sweep : MethodName := ⟨RX7, "sweep", "(I)I"⟩
abbrev cX7_rain : ByteArray := prog_1_method_10_code
def yX7_rain : MethodName := ⟨RX7, "rain", "(I)I"⟩
abbrev cX7_sun : ByteArray := prog_1_method_11_code
def yX7_sun : MethodName := ⟨RX7, "sun", "(I)I"⟩
abbrev cX7_brew : ByteArray := prog_1_method_12_code
def yX7_brew : MethodName := ⟨RX7, "brew", "(I)I"⟩
abbrev cX7_tea : ByteArray := prog_1_method_13_code
def yX7_tea : MethodName := ⟨RX7, "tea", "(I)I"⟩
abbrev cX7_hour : ByteArray := prog_1_method_14_code
def yX7_hour : MethodName := ⟨RX7, "hour", "(I)I"⟩
abbrev cX7_script : ByteArray := prog_1_method_15_code
def yX7_script : MethodName := ⟨RX7, "script", "()I"⟩
abbrev cX7_settle : ByteArray := prog_1_method_16_code
def yX7_settle : MethodName := ⟨RX7, "settle", "(I)I"⟩
abbrev cX7_isCode : ByteArray := prog_1_method_17_code
def yX7_isCode : MethodName := ⟨RX7, "isCode", "(I)Z"⟩
abbrev cX7_refuse : ByteArray := prog_1_method_18_code
def yX7_refuse : MethodName := ⟨RX7, "refuse", "(II)I"⟩
abbrev cX7_layRink : ByteArray := prog_1_method_19_code
def yX7_layRink : MethodName := ⟨RX7, "layRink", "(II)I"⟩
abbrev cX7_addWood : ByteArray := prog_1_method_20_code
def yX7_addWood : MethodName := ⟨RX7, "addWood", "(II)I"⟩
abbrev cX7_beginEnd : ByteArray := prog_1_method_21_code
def yX7_beginEnd : MethodName := ⟨RX7, "beginEnd", "(II)I"⟩
abbrev cX7_refuseWetRink : ByteArray := prog_1_method_22_code
def yX7_refuseWetRink : MethodName := ⟨RX7, "refuseWetRink", "(II)I"⟩
abbrev cX7_bowlWood : ByteArray := prog_1_method_23_code
def yX7_bowlWood : MethodName := ⟨RX7, "bowlWood", "(IIIIZ)I"⟩
abbrev cX7_isBowlRefused : ByteArray := prog_1_method_24_code
def yX7_isBowlRefused : MethodName := ⟨RX7, "isBowlRefused", "(II)Z"⟩
abbrev cX7_closeEnd : ByteArray := prog_1_method_25_code
def yX7_closeEnd : MethodName := ⟨RX7, "closeEnd", "(I)I"⟩
abbrev cX7_sweepRink : ByteArray := prog_1_method_26_code
def yX7_sweepRink : MethodName := ⟨RX7, "sweepRink", "(I)I"⟩
abbrev cX7_setRain : ByteArray := prog_1_method_27_code
def yX7_setRain : MethodName := ⟨RX7, "setRain", "(I)I"⟩
abbrev cX7_setSun : ByteArray := prog_1_method_28_code
def yX7_setSun : MethodName := ⟨RX7, "setSun", "(I)I"⟩
abbrev cX7_brewCups : ByteArray := prog_1_method_29_code
def yX7_brewCups : MethodName := ⟨RX7, "brewCups", "(I)I"⟩
abbrev cX7_giveTea : ByteArray := prog_1_method_30_code
def yX7_giveTea : MethodName := ⟨RX7, "giveTea", "(I)I"⟩
abbrev cX7_passHours : ByteArray := prog_1_method_31_code
def yX7_passHours : MethodName := ⟨RX7, "passHours", "(I)I"⟩
abbrev cX7_keepFault : ByteArray := prog_1_method_32_code
def yX7_keepFault : MethodName := ⟨RX7, "keepFault", "()I"⟩
abbrev cX7_carryOutOrders : ByteArray := prog_1_method_33_code
def yX7_carryOutOrders : MethodName := ⟨RX7, "carryOutOrders", "()I"⟩
abbrev cX7_carryOut : ByteArray := prog_1_method_34_code
def yX7_carryOut : MethodName := ⟨RX7, "carryOut", "(I)I"⟩
abbrev cX7_refuseScript : ByteArray := prog_1_method_35_code
def yX7_refuseScript : MethodName := ⟨RX7, "refuseScript", "(II)I"⟩
abbrev cX7_fault : ByteArray := prog_1_method_36_code
def yX7_fault : MethodName := ⟨RX7, "fault", "()I"⟩
abbrev cX7_reason : ByteArray := prog_1_method_37_code
def yX7_reason : MethodName := ⟨RX7, "reason", "(IZ)I"⟩
abbrev cX7_rinkOf : ByteArray := prog_1_method_38_code
def yX7_rinkOf : MethodName := ⟨RX7, "rinkOf", "(II)I"⟩
abbrev cX7_woodOf : ByteArray := prog_1_method_39_code
def yX7_woodOf : MethodName := ⟨RX7, "woodOf", "(II)I"⟩
abbrev cX7_clubOf : ByteArray := prog_1_method_40_code
def yX7_clubOf : MethodName := ⟨RX7, "clubOf", "(II)I"⟩
abbrev cX7_rinkAt : ByteArray := prog_1_method_41_code
def yX7_rinkAt : MethodName := ⟨RX7, "rinkAt", "(I)I"⟩
abbrev cX7_nearest : ByteArray := prog_1_method_42_code
def yX7_nearest : MethodName := ⟨RX7, "nearest", "(II)I"⟩
abbrev cX7_shots : ByteArray := prog_1_method_43_code
def yX7_shots : MethodName := ⟨RX7, "shots", "(IZ)I"⟩
abbrev cX7_would : ByteArray := prog_1_method_44_code
def yX7_would : MethodName := ⟨RX7, "would", "(IIIIZ)I"⟩
abbrev cX7_bestStrength : ByteArray := prog_1_method_45_code
def yX7_bestStrength : MethodName := ⟨RX7, "bestStrength", "(IIIZ)I"⟩
abbrev cX7_wetIn : ByteArray := prog_1_method_46_code
def yX7_wetIn : MethodName := ⟨RX7, "wetIn", "(II)I"⟩
abbrev cX7_castsIn : ByteArray := prog_1_method_47_code
def yX7_castsIn : MethodName := ⟨RX7, "castsIn", "(II)I"⟩
abbrev cX7_dryIn : ByteArray := prog_1_method_48_code
def yX7_dryIn : MethodName := ⟨RX7, "dryIn", "(I)I"⟩
abbrev cX7_leader : ByteArray := prog_1_method_49_code
def yX7_leader : MethodName := ⟨RX7, "leader", "()I"⟩
abbrev cX7_describe : ByteArray := prog_1_method_50_code
def yX7_describe : MethodName := ⟨RX7, "describe", "(I)I"⟩
abbrev cX7_writeWood : ByteArray := prog_1_method_51_code
def yX7_writeWood : MethodName := ⟨RX7, "writeWood", "(I)V"⟩
abbrev cX7_written : ByteArray := prog_1_method_52_code
def yX7_written : MethodName := ⟨RX7, "written", "(I)I"⟩
abbrev cX7_meanWet : ByteArray := prog_1_method_53_code
def yX7_meanWet : MethodName := ⟨RX7, "meanWet", "()F"⟩
abbrev cX7_winShare : ByteArray := prog_1_method_54_code
def yX7_winShare : MethodName := ⟨RX7, "winShare", "()D"⟩
abbrev cX7_account : ByteArray := prog_1_method_55_code
def yX7_account : MethodName := ⟨RX7, "account", "(I)I"⟩
abbrev cX7_undo : ByteArray := prog_1_method_56_code
def yX7_undo : MethodName := ⟨RX7, "undo", "()I"⟩
abbrev cX7_save : ByteArray := prog_1_method_57_code
def yX7_save : MethodName := ⟨RX7, "save", "()I"⟩
abbrev cX7_restore : ByteArray := prog_1_method_58_code
def yX7_restore : MethodName := ⟨RX7, "restore", "()I"⟩
abbrev cX7_isClub : ByteArray := prog_1_method_59_code
def yX7_isClub : MethodName := ⟨RX7, "isClub", "(I)Z"⟩
abbrev cX7_otherClub : ByteArray := prog_1_method_60_code
def yX7_otherClub : MethodName := ⟨RX7, "otherClub", "(I)I"⟩
abbrev cX7_isStrength : ByteArray := prog_1_method_61_code
def yX7_isStrength : MethodName := ⟨RX7, "isStrength", "(I)Z"⟩
abbrev cX7_isWeather : ByteArray := prog_1_method_62_code
def yX7_isWeather : MethodName := ⟨RX7, "isWeather", "(I)Z"⟩
def RX8 : String := "BowlsGreenModel"
def TX8 : u_T := fun k => match k with
  | _ => ("", "", "", false)
def tyX8 : Nat → FieldType := fun k => match k with
  | _ => .int
abbrev wsX80 : List Cond := u_ws RX8 TX8 0
theorem nmX8 : ∀ a, a < 0 → ∀ b, b < 0 → a ≠ b → (TX8 a).2.1 ≠ (TX8 b).2.1 := by decide +kernel
theorem tyX8_ok : ∀ k, k < 0 → parseFieldDescriptor (TX8 k).2.2.1 = some (tyX8 k) := by decide +kernel
def RJ5 : String := "java/lang/AbstractStringBuilder"
def TJ5 : u_T := fun k => match k with
  | _ => ("", "", "", false)
def tyJ5 : Nat → FieldType := fun k => match k with
  | _ => .int
abbrev wsJ50 : List Cond := u_ws RJ5 TJ5 0
theorem nmJ5 : ∀ a, a < 0 → ∀ b, b < 0 → a ≠ b → (TJ5 a).2.1 ≠ (TJ5 b).2.1 := by decide +kernel
theorem tyJ5_ok : ∀ k, k < 0 → parseFieldDescriptor (TJ5 k).2.2.1 = some (tyJ5 k) := by decide +kernel
abbrev cJ5_init_d00df : ByteArray := prog_11_method_2_code
def yJ5_init_d00df : MethodName := ⟨RJ5, "<init>", "(I)V"⟩
abbrev cJ5_length_8abf5 : ByteArray := prog_11_method_6_code
def yJ5_length_8abf5 : MethodName := ⟨RJ5, "length", "()I"⟩
abbrev cJ5_ensureCapacityInternal_d00df : ByteArray := prog_11_method_9_code
def yJ5_ensureCapacityInternal_d00df : MethodName := ⟨RJ5, "ensureCapacityInternal", "(I)V"⟩
abbrev cJ5_newCapacity_0f7a4 : ByteArray := prog_11_method_10_code
def yJ5_newCapacity_0f7a4 : MethodName := ⟨RJ5, "newCapacity", "(I)I"⟩
abbrev cJ5_inflate_da8c8 : ByteArray := prog_11_method_11_code
def yJ5_inflate_da8c8 : MethodName := ⟨RJ5, "inflate", "()V"⟩
abbrev cJ5_setLength_d00df : ByteArray := prog_11_method_13_code
def yJ5_setLength_d00df : MethodName := ⟨RJ5, "setLength", "(I)V"⟩
abbrev cJ5_charAt_5068e : ByteArray := prog_11_method_14_code
def yJ5_charAt_5068e : MethodName := ⟨RJ5, "charAt", "(I)C"⟩
abbrev cJ5_append_cf1ce : ByteArray := prog_11_method_22_code
def yJ5_append_cf1ce : MethodName := ⟨RJ5, "append", "(Ljava/lang/String;)Ljava/lang/AbstractStringBuilder;"⟩
abbrev cJ5_appendNull_278bc : ByteArray := prog_11_method_26_code
def yJ5_appendNull_278bc : MethodName := ⟨RJ5, "appendNull", "()Ljava/lang/AbstractStringBuilder;"⟩
abbrev cJ5_append_3fe6f : ByteArray := prog_11_method_31_code
def yJ5_append_3fe6f : MethodName := ⟨RJ5, "append", "(C)Ljava/lang/AbstractStringBuilder;"⟩
abbrev cJ5_append_c97b9 : ByteArray := prog_11_method_32_code
def yJ5_append_c97b9 : MethodName := ⟨RJ5, "append", "(I)Ljava/lang/AbstractStringBuilder;"⟩
abbrev cJ5_getValue_6d5f1 : ByteArray := prog_11_method_64_code
def yJ5_getValue_6d5f1 : MethodName := ⟨RJ5, "getValue", "()[B"⟩
abbrev cJ5_isLatin1_aae02 : ByteArray := prog_11_method_68_code
def yJ5_isLatin1_aae02 : MethodName := ⟨RJ5, "isLatin1", "()Z"⟩
abbrev cJ5_inflateIfNeededFor_a7421 : ByteArray := prog_11_method_71_code
def yJ5_inflateIfNeededFor_a7421 : MethodName := ⟨RJ5, "inflateIfNeededFor", "(Ljava/lang/String;)V"⟩
abbrev cJ5_putStringAt_47b60 : ByteArray := prog_11_method_73_code
def yJ5_putStringAt_47b60 : MethodName := ⟨RJ5, "putStringAt", "(ILjava/lang/String;)V"⟩
def RJx8e188 : String := "java/lang/Cloneable"
def TJx8e188 : u_T := fun k => match k with
  | _ => ("", "", "", false)
def tyJx8e188 : Nat → FieldType := fun k => match k with
  | _ => .int
abbrev wsJx8e1880 : List Cond := u_ws RJx8e188 TJx8e188 0
theorem nmJx8e188 : ∀ a, a < 0 → ∀ b, b < 0 → a ≠ b → (TJx8e188 a).2.1 ≠ (TJx8e188 b).2.1 := by decide +kernel
theorem tyJx8e188_ok : ∀ k, k < 0 → parseFieldDescriptor (TJx8e188 k).2.2.1 = some (tyJx8e188 k) := by decide +kernel
def RJxe99ae : String := "java/lang/Double"
def TJxe99ae : u_T := fun k => match k with
  | _ => ("", "", "", false)
def tyJxe99ae : Nat → FieldType := fun k => match k with
  | _ => .int
abbrev wsJxe99ae0 : List Cond := u_ws RJxe99ae TJxe99ae 0
theorem nmJxe99ae : ∀ a, a < 0 → ∀ b, b < 0 → a ≠ b → (TJxe99ae a).2.1 ≠ (TJxe99ae b).2.1 := by decide +kernel
theorem tyJxe99ae_ok : ∀ k, k < 0 → parseFieldDescriptor (TJxe99ae k).2.2.1 = some (tyJxe99ae k) := by decide +kernel
abbrev cJxe99ae_isNaN_b9ae7 : ByteArray := prog_13_method_6_code
def yJxe99ae_isNaN_b9ae7 : MethodName := ⟨RJxe99ae, "isNaN", "(D)Z"⟩
abbrev cJxe99ae_doubleToLongBits_ccdee : ByteArray := prog_13_method_23_code
def yJxe99ae_doubleToLongBits_ccdee : MethodName := ⟨RJxe99ae, "doubleToLongBits", "(D)J"⟩
def RJxf58ca : String := "java/lang/Float"
def TJxf58ca : u_T := fun k => match k with
  | _ => ("", "", "", false)
def tyJxf58ca : Nat → FieldType := fun k => match k with
  | _ => .int
abbrev wsJxf58ca0 : List Cond := u_ws RJxf58ca TJxf58ca 0
theorem nmJxf58ca : ∀ a, a < 0 → ∀ b, b < 0 → a ≠ b → (TJxf58ca a).2.1 ≠ (TJxf58ca b).2.1 := by decide +kernel
theorem tyJxf58ca_ok : ∀ k, k < 0 → parseFieldDescriptor (TJxf58ca k).2.2.1 = some (tyJxf58ca k) := by decide +kernel
abbrev cJxf58ca_isNaN_12338 : ByteArray := prog_14_method_6_code
def yJxf58ca_isNaN_12338 : MethodName := ⟨RJxf58ca, "isNaN", "(F)Z"⟩
abbrev cJxf58ca_floatToIntBits_5c35a : ByteArray := prog_14_method_24_code
def yJxf58ca_floatToIntBits_5c35a : MethodName := ⟨RJxf58ca, "floatToIntBits", "(F)I"⟩
def RJ6 : String := "java/lang/Integer"
def TJ6 : u_T := fun k => match k with
  | _ => ("", "", "", false)
def tyJ6 : Nat → FieldType := fun k => match k with
  | _ => .int
abbrev wsJ60 : List Cond := u_ws RJ6 TJ6 0
theorem nmJ6 : ∀ a, a < 0 → ∀ b, b < 0 → a ≠ b → (TJ6 a).2.1 ≠ (TJ6 b).2.1 := by decide +kernel
theorem tyJ6_ok : ∀ k, k < 0 → parseFieldDescriptor (TJ6 k).2.2.1 = some (tyJ6 k) := by decide +kernel
abbrev cJ6_getChars_ba4f3 : ByteArray := prog_15_method_12_code
def yJ6_getChars_ba4f3 : MethodName := ⟨RJ6, "getChars", "(II[B)I"⟩
abbrev cJ6_stringSize_0f7a4 : ByteArray := prog_15_method_13_code
def yJ6_stringSize_0f7a4 : MethodName := ⟨RJ6, "stringSize", "(I)I"⟩
def RJ9 : String := "java/lang/Math"
def TJ9 : u_T := fun k => match k with
  | _ => ("", "", "", false)
def tyJ9 : Nat → FieldType := fun k => match k with
  | _ => .int
abbrev wsJ90 : List Cond := u_ws RJ9 TJ9 0
theorem nmJ9 : ∀ a, a < 0 → ∀ b, b < 0 → a ≠ b → (TJ9 a).2.1 ≠ (TJ9 b).2.1 := by decide +kernel
theorem tyJ9_ok : ∀ k, k < 0 → parseFieldDescriptor (TJ9 k).2.2.1 = some (tyJ9 k) := by decide +kernel
abbrev cJ9_max_7cf53 : ByteArray := prog_16_method_65_code
def yJ9_max_7cf53 : MethodName := ⟨RJ9, "max", "(II)I"⟩
abbrev cJ9_min_7cf53 : ByteArray := prog_16_method_69_code
def yJ9_min_7cf53 : MethodName := ⟨RJ9, "min", "(II)I"⟩
def RJ0 : String := "java/lang/String"
def TJ0 : u_T := fun k => match k with
  | 0 => ("java/lang/String", "value", "[B", true)
  | 1 => ("java/lang/String", "coder", "B", true)
  | 2 => ("java/lang/String", "hash", "I", false)
  | _ => ("java/lang/String", "hashIsZero", "Z", false)
def tyJ0 : Nat → FieldType := fun k => match k with
  | 0 => .array .byte
  | 1 => .byte
  | 2 => .int
  | _ => .boolean
abbrev wsJ00 : List Cond := u_ws RJ0 TJ0 4
theorem nmJ0 : ∀ a, a < 4 → ∀ b, b < 4 → a ≠ b → (TJ0 a).2.1 ≠ (TJ0 b).2.1 := by decide +kernel
theorem tyJ0_ok : ∀ k, k < 4 → parseFieldDescriptor (TJ0 k).2.2.1 = some (tyJ0 k) := by decide +kernel
abbrev cJ0_init_81219 : ByteArray := prog_17_method_53_code
def yJ0_init_81219 : MethodName := ⟨RJ0, "<init>", "(Ljava/lang/StringBuilder;)V"⟩
abbrev cJ0_length_8abf5 : ByteArray := prog_17_method_54_code
def yJ0_length_8abf5 : MethodName := ⟨RJ0, "length", "()I"⟩
abbrev cJ0_isEmpty_aae02 : ByteArray := prog_17_method_55_code
def yJ0_isEmpty_aae02 : MethodName := ⟨RJ0, "isEmpty", "()Z"⟩
abbrev cJ0_charAt_5068e : ByteArray := prog_17_method_56_code
def yJ0_charAt_5068e : MethodName := ⟨RJ0, "charAt", "(I)C"⟩
abbrev cJ0_getBytes_840e7 : ByteArray := prog_17_method_147_code
def yJ0_getBytes_840e7 : MethodName := ⟨RJ0, "getBytes", "([BIB)V"⟩
abbrev cJ0_init_db425 : ByteArray := prog_17_method_150_code
def yJ0_init_db425 : MethodName := ⟨RJ0, "<init>", "(Ljava/lang/AbstractStringBuilder;Ljava/lang/Void;)V"⟩
abbrev cJ0_coder_7d493 : ByteArray := prog_17_method_152_code
def yJ0_coder_7d493 : MethodName := ⟨RJ0, "coder", "()B"⟩
abbrev cJ0_isLatin1_aae02 : ByteArray := prog_17_method_154_code
def yJ0_isLatin1_aae02 : MethodName := ⟨RJ0, "isLatin1", "()Z"⟩
abbrev cJ0_checkIndex_df160 : ByteArray := prog_17_method_155_code
def yJ0_checkIndex_df160 : MethodName := ⟨RJ0, "checkIndex", "(II)V"⟩
abbrev cJ0_checkBoundsOffCount_cabcc : ByteArray := prog_17_method_157_code
def yJ0_checkBoundsOffCount_cabcc : MethodName := ⟨RJ0, "checkBoundsOffCount", "(III)I"⟩
abbrev cJ0_checkBoundsBeginEnd_23922 : ByteArray := prog_17_method_158_code
def yJ0_checkBoundsBeginEnd_23922 : MethodName := ⟨RJ0, "checkBoundsBeginEnd", "(III)V"⟩
def RJ4 : String := "java/lang/StringBuilder"
def TJ4 : u_T := fun k => match k with
  | 0 => ("java/lang/AbstractStringBuilder", "value", "[B", false)
  | 1 => ("java/lang/AbstractStringBuilder", "coder", "B", false)
  | 2 => ("java/lang/AbstractStringBuilder", "maybeLatin1", "Z", false)
  | _ => ("java/lang/AbstractStringBuilder", "count", "I", false)
def tyJ4 : Nat → FieldType := fun k => match k with
  | 0 => .array .byte
  | 1 => .byte
  | 2 => .boolean
  | _ => .int
abbrev wsJ40 : List Cond := u_ws RJ4 TJ4 4
theorem nmJ4 : ∀ a, a < 4 → ∀ b, b < 4 → a ≠ b → (TJ4 a).2.1 ≠ (TJ4 b).2.1 := by decide +kernel
theorem tyJ4_ok : ∀ k, k < 4 → parseFieldDescriptor (TJ4 k).2.2.1 = some (tyJ4 k) := by decide +kernel
abbrev cJ4_init_da8c8 : ByteArray := prog_18_method_1_code
def yJ4_init_da8c8 : MethodName := ⟨RJ4, "<init>", "()V"⟩
abbrev cJ4_append_15ec4 : ByteArray := prog_18_method_7_code
def yJ4_append_15ec4 : MethodName := ⟨RJ4, "append", "(Ljava/lang/String;)Ljava/lang/StringBuilder;"⟩
abbrev cJ4_append_cf468 : ByteArray := prog_18_method_14_code
def yJ4_append_cf468 : MethodName := ⟨RJ4, "append", "(C)Ljava/lang/StringBuilder;"⟩
abbrev cJ4_append_bf812 : ByteArray := prog_18_method_15_code
def yJ4_append_bf812 : MethodName := ⟨RJ4, "append", "(I)Ljava/lang/StringBuilder;"⟩
abbrev cJ4_toString_0e30d : ByteArray := prog_18_method_42_code
def yJ4_toString_0e30d : MethodName := ⟨RJ4, "toString", "()Ljava/lang/String;"⟩
abbrev cJ4_charAt_5068e : ByteArray := prog_18_method_88_code
def yJ4_charAt_5068e : MethodName := ⟨RJ4, "charAt", "(I)C"⟩
abbrev cJ4_setLength_d00df : ByteArray := prog_18_method_89_code
def yJ4_setLength_d00df : MethodName := ⟨RJ4, "setLength", "(I)V"⟩
abbrev cJ4_length_8abf5 : ByteArray := prog_18_method_93_code
def yJ4_length_8abf5 : MethodName := ⟨RJ4, "length", "()I"⟩
def RJ1 : String := "java/lang/StringLatin1"
def TJ1 : u_T := fun k => match k with
  | _ => ("", "", "", false)
def tyJ1 : Nat → FieldType := fun k => match k with
  | _ => .int
abbrev wsJ10 : List Cond := u_ws RJ1 TJ1 0
theorem nmJ1 : ∀ a, a < 0 → ∀ b, b < 0 → a ≠ b → (TJ1 a).2.1 ≠ (TJ1 b).2.1 := by decide +kernel
theorem tyJ1_ok : ∀ k, k < 0 → parseFieldDescriptor (TJ1 k).2.2.1 = some (tyJ1 k) := by decide +kernel
abbrev cJ1_charAt_3b067 : ByteArray := prog_19_method_2_code
def yJ1_charAt_3b067 : MethodName := ⟨RJ1, "charAt", "([BI)C"⟩
abbrev cJ1_canEncode_fc78d : ByteArray := prog_19_method_3_code
def yJ1_canEncode_fc78d : MethodName := ⟨RJ1, "canEncode", "(C)Z"⟩
abbrev cJ1_fillNull_b72d1 : ByteArray := prog_19_method_48_code
def yJ1_fillNull_b72d1 : MethodName := ⟨RJ1, "fillNull", "([BII)V"⟩
abbrev cJ1_inflate_0e8fd : ByteArray := prog_19_method_50_code
def yJ1_inflate_0e8fd : MethodName := ⟨RJ1, "inflate", "([BI[BII)V"⟩
def RJ2 : String := "java/lang/StringUTF16"
def TJ2 : u_T := fun k => match k with
  | _ => ("", "", "", false)
def tyJ2 : Nat → FieldType := fun k => match k with
  | _ => .int
abbrev wsJ20 : List Cond := u_ws RJ2 TJ2 0
theorem nmJ2 : ∀ a, a < 0 → ∀ b, b < 0 → a ≠ b → (TJ2 a).2.1 ≠ (TJ2 b).2.1 := by decide +kernel
theorem tyJ2_ok : ∀ k, k < 0 → parseFieldDescriptor (TJ2 k).2.2.1 = some (tyJ2 k) := by decide +kernel
abbrev cJ2_newBytesFor_77867 : ByteArray := prog_20_method_2_code
def yJ2_newBytesFor_77867 : MethodName := ⟨RJ2, "newBytesFor", "(I)[B"⟩
abbrev cJ2_newBytesLength_0f7a4 : ByteArray := prog_20_method_3_code
def yJ2_newBytesLength_0f7a4 : MethodName := ⟨RJ2, "newBytesLength", "(I)I"⟩
abbrev cJ2_putChar_b72d1 : ByteArray := prog_20_method_4_code
def yJ2_putChar_b72d1 : MethodName := ⟨RJ2, "putChar", "([BII)V"⟩
abbrev cJ2_getChar_3b067 : ByteArray := prog_20_method_5_code
def yJ2_getChar_3b067 : MethodName := ⟨RJ2, "getChar", "([BI)C"⟩
abbrev cJ2_length_9d52b : ByteArray := prog_20_method_6_code
def yJ2_length_9d52b : MethodName := ⟨RJ2, "length", "([B)I"⟩
abbrev cJ2_coderFromArrayLen_85cad : ByteArray := prog_20_method_15_code
def yJ2_coderFromArrayLen_85cad : MethodName := ⟨RJ2, "coderFromArrayLen", "([BI)B"⟩
abbrev cJ2_compress_39247 : ByteArray := prog_20_method_17_code
def yJ2_compress_39247 : MethodName := ⟨RJ2, "compress", "([BII)[B"⟩
abbrev cJ2_compress_5af95 : ByteArray := prog_20_method_22_code
def yJ2_compress_5af95 : MethodName := ⟨RJ2, "compress", "([BI[BII)I"⟩
abbrev cJ2_fillNull_b72d1 : ByteArray := prog_20_method_70_code
def yJ2_fillNull_b72d1 : MethodName := ⟨RJ2, "fillNull", "([BII)V"⟩
abbrev cJ2_putCharSB_b72d1 : ByteArray := prog_20_method_71_code
def yJ2_putCharSB_b72d1 : MethodName := ⟨RJ2, "putCharSB", "([BII)V"⟩
abbrev cJ2_getChars_46870 : ByteArray := prog_20_method_77_code
def yJ2_getChars_46870 : MethodName := ⟨RJ2, "getChars", "(III[B)I"⟩
abbrev cJ2_putCharsAt_cd4e5 : ByteArray := prog_20_method_81_code
def yJ2_putCharsAt_cd4e5 : MethodName := ⟨RJ2, "putCharsAt", "([BICCCC)I"⟩
abbrev cJ2_charAt_3b067 : ByteArray := prog_20_method_83_code
def yJ2_charAt_3b067 : MethodName := ⟨RJ2, "charAt", "([BI)C"⟩
abbrev cJ2_inflate_0e8fd : ByteArray := prog_20_method_86_code
def yJ2_inflate_0e8fd : MethodName := ⟨RJ2, "inflate", "([BI[BII)V"⟩
abbrev cJ2_getChars_ba4f3 : ByteArray := prog_20_method_89_code
def yJ2_getChars_ba4f3 : MethodName := ⟨RJ2, "getChars", "(II[B)I"⟩
abbrev cJ2_checkIndex_2214a : ByteArray := prog_20_method_91_code
def yJ2_checkIndex_2214a : MethodName := ⟨RJ2, "checkIndex", "(I[B)V"⟩
abbrev cJ2_checkBoundsBeginEnd_d044e : ByteArray := prog_20_method_93_code
def yJ2_checkBoundsBeginEnd_d044e : MethodName := ⟨RJ2, "checkBoundsBeginEnd", "(II[B)V"⟩
abbrev cJ2_checkBoundsOffCount_d044e : ByteArray := prog_20_method_94_code
def yJ2_checkBoundsOffCount_d044e : MethodName := ⟨RJ2, "checkBoundsOffCount", "(II[B)V"⟩
def RJ10 : String := "java/lang/System"
def TJ10 : u_T := fun k => match k with
  | _ => ("", "", "", false)
def tyJ10 : Nat → FieldType := fun k => match k with
  | _ => .int
abbrev wsJ100 : List Cond := u_ws RJ10 TJ10 0
theorem nmJ10 : ∀ a, a < 0 → ∀ b, b < 0 → a ≠ b → (TJ10 a).2.1 ≠ (TJ10 b).2.1 := by decide +kernel
theorem tyJ10_ok : ∀ k, k < 0 → parseFieldDescriptor (TJ10 k).2.2.1 = some (tyJ10 k) := by decide +kernel
def RJ7 : String := "java/util/Arrays"
def TJ7 : u_T := fun k => match k with
  | _ => ("", "", "", false)
def tyJ7 : Nat → FieldType := fun k => match k with
  | _ => .int
abbrev wsJ70 : List Cond := u_ws RJ7 TJ7 0
theorem nmJ7 : ∀ a, a < 0 → ∀ b, b < 0 → a ≠ b → (TJ7 a).2.1 ≠ (TJ7 b).2.1 := by decide +kernel
theorem tyJ7_ok : ∀ k, k < 0 → parseFieldDescriptor (TJ7 k).2.2.1 = some (tyJ7 k) := by decide +kernel
abbrev cJ7_rangeCheck_23922 : ByteArray := prog_22_method_30_code
def yJ7_rangeCheck_23922 : MethodName := ⟨RJ7, "rangeCheck", "(III)V"⟩
abbrev cJ7_fill_eb02e : ByteArray := prog_22_method_110_code
def yJ7_fill_eb02e : MethodName := ⟨RJ7, "fill", "([BIIB)V"⟩
abbrev cJ7_copyOf_9075b : ByteArray := prog_22_method_121_code
def yJ7_copyOf_9075b : MethodName := ⟨RJ7, "copyOf", "([BI)[B"⟩
abbrev cJ7_checkLength_df160 : ByteArray := prog_22_method_131_code
def yJ7_checkLength_df160 : MethodName := ⟨RJ7, "checkLength", "(II)V"⟩
abbrev cJ7_copyOfRange_39247 : ByteArray := prog_22_method_132_code
def yJ7_copyOfRange_39247 : MethodName := ⟨RJ7, "copyOfRange", "([BII)[B"⟩
abbrev cJ7_copyOfRangeByte_39247 : ByteArray := prog_22_method_133_code
def yJ7_copyOfRangeByte_39247 : MethodName := ⟨RJ7, "copyOfRangeByte", "([BII)[B"⟩
def RJ8 : String := "jdk/internal/util/ArraysSupport"
def TJ8 : u_T := fun k => match k with
  | _ => ("", "", "", false)
def tyJ8 : Nat → FieldType := fun k => match k with
  | _ => .int
abbrev wsJ80 : List Cond := u_ws RJ8 TJ8 0
theorem nmJ8 : ∀ a, a < 0 → ∀ b, b < 0 → a ≠ b → (TJ8 a).2.1 ≠ (TJ8 b).2.1 := by decide +kernel
theorem tyJ8_ok : ∀ k, k < 0 → parseFieldDescriptor (TJ8 k).2.2.1 = some (tyJ8 k) := by decide +kernel
abbrev cJ8_newLength_cabcc : ByteArray := prog_23_method_27_code
def yJ8_newLength_cabcc : MethodName := ⟨RJ8, "newLength", "(III)I"⟩
abbrev cJ8_hugeLength_7cf53 : ByteArray := prog_23_method_28_code
def yJ8_hugeLength_7cf53 : MethodName := ⟨RJ8, "hugeLength", "(II)I"⟩
def RJ3 : String := "jdk/internal/util/Preconditions"
def TJ3 : u_T := fun k => match k with
  | _ => ("", "", "", false)
def tyJ3 : Nat → FieldType := fun k => match k with
  | _ => .int
abbrev wsJ30 : List Cond := u_ws RJ3 TJ3 0
theorem nmJ3 : ∀ a, a < 0 → ∀ b, b < 0 → a ≠ b → (TJ3 a).2.1 ≠ (TJ3 b).2.1 := by decide +kernel
theorem tyJ3_ok : ∀ k, k < 0 → parseFieldDescriptor (TJ3 k).2.2.1 = some (tyJ3 k) := by decide +kernel
abbrev cJ3_checkIndex_8e157 : ByteArray := prog_24_method_11_code
def yJ3_checkIndex_8e157 : MethodName := ⟨RJ3, "checkIndex", "(IILjava/util/function/BiFunction;)I"⟩
abbrev cJ3_checkFromToIndex_8c36e : ByteArray := prog_24_method_12_code
def yJ3_checkFromToIndex_8c36e : MethodName := ⟨RJ3, "checkFromToIndex", "(IIILjava/util/function/BiFunction;)I"⟩
abbrev cJ3_checkFromIndexSize_8c36e : ByteArray := prog_24_method_13_code
def yJ3_checkFromIndexSize_8c36e : MethodName := ⟨RJ3, "checkFromIndexSize", "(IIILjava/util/function/BiFunction;)I"⟩
def RL : String := "BowlsGreenLaw"
abbrev cL_at : ByteArray := method_2_code
def yL_at : MethodName := ⟨RL, "at", "([II)I"⟩
abbrev cL_some : ByteArray := method_3_code
def yL_some : MethodName := ⟨RL, "some", "(II)I"⟩
abbrev cL_reads : ByteArray := method_4_code
def yL_reads : MethodName := ⟨RL, "reads", "(LBowlsGreen;Ljava/lang/String;)I"⟩
abbrev cL_are : ByteArray := method_5_code
def yL_are : MethodName := ⟨RL, "are", "(LBowlsGreen;[I)Z"⟩
abbrev cL_isLine : ByteArray := method_6_code
def yL_isLine : MethodName := ⟨RL, "isLine", "(LBowlsGreen;ILjava/lang/String;)Z"⟩
abbrev cL_makes : ByteArray := method_7_code
def yL_makes : MethodName := ⟨RL, "makes", "(LBowlsGreen;[I)Z"⟩
abbrev cL_asks : ByteArray := method_8_code
def yL_asks : MethodName := ⟨RL, "asks", "(LBowlsGreen;)J"⟩
abbrev cL_changes : ByteArray := method_9_code
def yL_changes : MethodName := ⟨RL, "changes", "(LBowlsGreen;I)Z"⟩
abbrev cL_refused : ByteArray := method_10_code
def yL_refused : MethodName := ⟨RL, "refused", "(LBowlsGreen;)Z"⟩
abbrev cL_law : ByteArray := code
def yL_law : MethodName := ⟨RL, "law", "([I)Z"⟩
def wsL_law_r1 : List Cond := [Cond.classLink RL 18 RX7, Cond.instantiable RX7 9, Cond.initialized RX7, Cond.arrayClass .int, Cond.constantFloat RL 195 (1091567616), Cond.arrayClass .long, Cond.methodLink RL 216 Lib.Math.min.name, Cond.static Lib.Math.min.name, Cond.initialized "java/lang/Math", Cond.code Lib.Math.min.name Lib.Math.min.code 2 (some .int), Cond.methodLink RL 185 yX7_init, Cond.instanceMethod yX7_init, Cond.code yX7_init cX7_init 1 none, Cond.methodLink RX7 3 objectInit, Cond.instanceMethod objectInit, Cond.code objectInit ⟨#[0xb1]⟩ 1 none, Cond.classLink RX7 9 RX1, Cond.instantiable RX1 11, Cond.initialized RX1, Cond.fieldLink RX7 12 "BowlsGreen" "green" "LBowlsGreen$Green;", Cond.fieldLink RX7 16 "BowlsGreen" "saved" "LBowlsGreen$Green;", Cond.fieldLink RX7 19 "BowlsGreen" "isSaved" "Z", Cond.classLink RX7 23 RX3, Cond.instantiable RX3 3]
def wsL_law_r2 : List Cond := [Cond.initialized RX3, Cond.fieldLink RX7 26 "BowlsGreen" "past" "LBowlsGreen$Past;", Cond.classLink RX7 30 RJ4, Cond.instantiable RJ4 4, Cond.initialized RJ4, Cond.fieldLink RX7 33 "BowlsGreen" "input" "Ljava/lang/StringBuilder;", Cond.classLink RX7 37 RX2, Cond.instantiable RX2 4, Cond.initialized RX2, Cond.fieldLink RX7 40 "BowlsGreen" "orders" "LBowlsGreen$Orders;", Cond.fieldLink RX7 44 "BowlsGreen" "faultPosition" "I", Cond.classLink RX7 48 RX4, Cond.instantiable RX4 3, Cond.initialized RX4, Cond.fieldLink RX7 51 "BowlsGreen" "reasons" "LBowlsGreen$Reasons;", Cond.fieldLink RX7 55 "BowlsGreen" "line" "Ljava/lang/StringBuilder;", Cond.methodLink RX7 11 yX1_init, Cond.instanceMethod yX1_init, Cond.code yX1_init cX1_init 2 none, Cond.methodLink RX1 3 objectInit, Cond.classLink RX1 9 RX5, Cond.fieldLink RX1 11 "BowlsGreen$Green" "rinks" "[LBowlsGreen$Rink;", Cond.instantiable RX5 9, Cond.initialized RX5]
def wsL_law_r3 : List Cond := [Cond.classLink RX1 18 RX6, Cond.fieldLink RX1 20 "BowlsGreen$Green" "woods" "[LBowlsGreen$Wood;", Cond.instantiable RX6 8, Cond.initialized RX6, Cond.classLink RX1 25 RX0, Cond.fieldLink RX1 27 "BowlsGreen$Green" "clubs" "[LBowlsGreen$Club;", Cond.instantiable RX0 4, Cond.initialized RX0, Cond.methodLink RX1 17 yX5_init, Cond.instanceMethod yX5_init, Cond.code yX5_init cX5_init 1 none, Cond.methodLink RX5 3 objectInit, Cond.fieldLink RX5 9 "BowlsGreen$Rink" "bowled" "[I", Cond.instanceMethod yX6_init, Cond.code yX6_init cX6_init 1 none, Cond.methodLink RX6 3 objectInit, Cond.instanceMethod yX0_init, Cond.code yX0_init cX0_init 1 none, Cond.methodLink RX0 3 objectInit, Cond.methodLink RX1 32 yX1_reset, Cond.instanceMethod yX1_reset, Cond.selects RX1 yX1_reset yX1_reset, Cond.code yX1_reset cX1_reset 1 none, Cond.fieldLink RX1 35 "BowlsGreen$Green" "rinkCount" "I"]
def wsL_law_r4 : List Cond := [Cond.fieldLink RX1 39 "BowlsGreen$Green" "woodCount" "I", Cond.fieldLink RX1 43 "BowlsGreen$Green" "hour" "I", Cond.fieldLink RX1 46 "BowlsGreen$Green" "rain" "I", Cond.fieldLink RX1 49 "BowlsGreen$Green" "sun" "I", Cond.fieldLink RX1 52 "BowlsGreen$Green" "cups" "I", Cond.fieldLink RX1 55 "BowlsGreen$Green" "drunk" "I", Cond.fieldLink RX1 58 "BowlsGreen$Green" "swept" "I", Cond.methodLink RX1 42 yX0_reset, Cond.instanceMethod yX0_reset, Cond.selects RX0 yX0_reset yX0_reset, Cond.code yX0_reset cX0_reset 1 none, Cond.fieldLink RX0 9 "BowlsGreen$Club" "shots" "I", Cond.fieldLink RX0 15 "BowlsGreen$Club" "ends" "I", Cond.fieldLink RX0 18 "BowlsGreen$Club" "coins" "I", Cond.fieldLink RX0 21 "BowlsGreen$Club" "teas" "I", Cond.methodLink RX7 25 yX3_init, Cond.instanceMethod yX3_init, Cond.code yX3_init cX3_init 2 none, Cond.methodLink RX3 3 objectInit, Cond.classLink RX3 9 RX1, Cond.fieldLink RX3 11 "BowlsGreen$Past" "greens" "[LBowlsGreen$Green;", Cond.methodLink RX3 17 yX1_init, Cond.methodLink RX7 32 yJ4_init_da8c8, Cond.instanceMethod yJ4_init_da8c8]
def wsL_law_r5 : List Cond := [Cond.code yJ4_init_da8c8 cJ4_init_da8c8 1 none, Cond.methodLink RJ4 1 yJ5_init_d00df, Cond.instanceMethod yJ5_init_d00df, Cond.initialized RJ5, Cond.code yJ5_init_d00df cJ5_init_d00df 2 none, Cond.methodLink RJ5 3 objectInit, Cond.fieldLink RJ5 18 "java/lang/String" "COMPACT_STRINGS" "Z", Cond.arrayClass .byte, Cond.fieldLink RJ5 15 "java/lang/AbstractStringBuilder" "value" "[B", Cond.fieldLink RJ5 22 "java/lang/AbstractStringBuilder" "coder" "B", Cond.methodLink RJ5 26 yJ2_newBytesFor_77867, Cond.static yJ2_newBytesFor_77867, Cond.initialized RJ2, Cond.code yJ2_newBytesFor_77867 cJ2_newBytesFor_77867 1 (some (.array .byte)), Cond.methodLink RJ2 11 yJ2_newBytesLength_0f7a4, Cond.static yJ2_newBytesLength_0f7a4, Cond.code yJ2_newBytesLength_0f7a4 cJ2_newBytesLength_0f7a4 1 (some .int), Cond.constant RJ2 20 (1073741823), Cond.methodLink RX7 39 yX2_init, Cond.instanceMethod yX2_init, Cond.code yX2_init cX2_init 1 none, Cond.methodLink RX2 3 objectInit, Cond.fieldLink RX2 9 "BowlsGreen$Orders" "signs" "[I", Cond.fieldLink RX2 15 "BowlsGreen$Orders" "numbers" "[I"]
def wsL_law_r6 : List Cond := [Cond.methodLink RX7 50 yX4_init, Cond.instanceMethod yX4_init, Cond.code yX4_init cX4_init 1 none, Cond.methodLink RX4 3 objectInit, Cond.fieldLink RX4 9 "BowlsGreen$Reasons" "numbers" "[I", Cond.fieldLink RX4 15 "BowlsGreen$Reasons" "details" "[I", Cond.methodLink RL 186 yX7_undo, Cond.instanceMethod yX7_undo, Cond.selects RX7 yX7_undo yX7_undo, Cond.code yX7_undo cX7_undo 1 (some .int), Cond.fieldLink RX7 411 "BowlsGreen$Past" "count" "I", Cond.methodLink RX7 412 yX3_takeBack, Cond.instanceMethod yX3_takeBack, Cond.selects RX3 yX3_takeBack yX3_takeBack, Cond.code yX3_takeBack cX3_takeBack 2 none, Cond.fieldLink RX3 22 "BowlsGreen$Past" "free" "I", Cond.fieldLink RX3 18 "BowlsGreen$Past" "count" "I", Cond.methodLink RX3 25 yX1_become, Cond.instanceMethod yX1_become, Cond.selects RX1 yX1_become yX1_become, Cond.code yX1_become cX1_become 3 none, Cond.methodLink RX1 61 yX5_become, Cond.instanceMethod yX5_become, Cond.selects RX5 yX5_become yX5_become]
def wsL_law_r7 : List Cond := [Cond.code yX5_become cX5_become 2 none, Cond.fieldLink RX5 15 "BowlsGreen$Rink" "first" "I", Cond.fieldLink RX5 19 "BowlsGreen$Rink" "last" "I", Cond.fieldLink RX5 22 "BowlsGreen$Rink" "wet" "I", Cond.fieldLink RX5 25 "BowlsGreen$Rink" "casts" "I", Cond.fieldLink RX5 28 "BowlsGreen$Rink" "jack" "I", Cond.fieldLink RX5 31 "BowlsGreen$Rink" "starter" "I", Cond.fieldLink RX5 34 "BowlsGreen$Rink" "turn" "I", Cond.fieldLink RX5 37 "BowlsGreen$Rink" "closed" "I", Cond.methodLink RX1 65 yX6_become, Cond.instanceMethod yX6_become, Cond.selects RX6 yX6_become yX6_become, Cond.code yX6_become cX6_become 2 none, Cond.fieldLink RX6 9 "BowlsGreen$Wood" "club" "I", Cond.fieldLink RX6 15 "BowlsGreen$Wood" "bias" "I", Cond.fieldLink RX6 18 "BowlsGreen$Wood" "state" "I", Cond.fieldLink RX6 21 "BowlsGreen$Wood" "rink" "I", Cond.fieldLink RX6 24 "BowlsGreen$Wood" "column" "I", Cond.fieldLink RX6 27 "BowlsGreen$Wood" "length" "I", Cond.fieldLink RX6 30 "BowlsGreen$Wood" "distance" "I", Cond.fieldLink RX6 33 "BowlsGreen$Wood" "bowled" "I", Cond.methodLink RX1 68 yX0_become, Cond.instanceMethod yX0_become, Cond.selects RX0 yX0_become yX0_become]
def wsL_law_r8 : List Cond := [Cond.code yX0_become cX0_become 2 none, Cond.methodLink RL 189 yX7_restore, Cond.instanceMethod yX7_restore, Cond.selects RX7 yX7_restore yX7_restore, Cond.code yX7_restore cX7_restore 1 (some .int), Cond.fieldLink RX7 58 "BowlsGreen$Green" "hour" "I", Cond.methodLink RX7 415 yX1_become, Cond.methodLink RX7 64 yX3_forget, Cond.instanceMethod yX3_forget, Cond.selects RX3 yX3_forget yX3_forget, Cond.code yX3_forget cX3_forget 1 none, Cond.methodLink RL 192 yX7_save, Cond.instanceMethod yX7_save, Cond.selects RX7 yX7_save yX7_save, Cond.code yX7_save cX7_save 1 (some .int), Cond.methodLink RL 59 yX7_hour, Cond.instanceMethod yX7_hour, Cond.selects RX7 yX7_hour yX7_hour, Cond.code yX7_hour cX7_hour 2 (some .int), Cond.methodLink RX7 75 yX3_note, Cond.instanceMethod yX3_note, Cond.selects RX3 yX3_note yX3_note, Cond.code yX3_note cX3_note 2 none, Cond.methodLink RX7 115 yX7_passHours]
def wsL_law_r9 : List Cond := [Cond.instanceMethod yX7_passHours, Cond.selects RX7 yX7_passHours yX7_passHours, Cond.code yX7_passHours cX7_passHours 3 (some .int), Cond.methodLink RX7 304 yX1_passHour, Cond.instanceMethod yX1_passHour, Cond.selects RX1 yX1_passHour yX1_passHour, Cond.code yX1_passHour cX1_passHour 3 none, Cond.fieldLink RX1 80 "BowlsGreen$Rink" "wet" "I", Cond.fieldLink RX1 83 "BowlsGreen$Rink" "casts" "I", Cond.methodLink RX1 159 yX1_wetAfter, Cond.instanceMethod yX1_wetAfter, Cond.selects RX1 yX1_wetAfter yX1_wetAfter, Cond.code yX1_wetAfter cX1_wetAfter 2 (some .int), Cond.methodLink RX1 126 Lib.Math.min.name, Cond.methodLink RX1 86 Lib.Math.max.name, Cond.static Lib.Math.max.name, Cond.code Lib.Math.max.name Lib.Math.max.code 2 (some .int), Cond.methodLink RX1 162 yX5_castsAfter, Cond.instanceMethod yX5_castsAfter, Cond.selects RX5 yX5_castsAfter yX5_castsAfter, Cond.code yX5_castsAfter cX5_castsAfter 3 (some .int), Cond.methodLink RX5 44 Lib.Math.min.name, Cond.methodLink RX5 40 yX5_isPlayed, Cond.instanceMethod yX5_isPlayed]
def wsL_law_r10 : List Cond := [Cond.selects RX5 yX5_isPlayed yX5_isPlayed, Cond.code yX5_isPlayed cX5_isPlayed 1 (some .boolean), Cond.methodLink RX7 307 yX1_allCasts, Cond.instanceMethod yX1_allCasts, Cond.selects RX1 yX1_allCasts yX1_allCasts, Cond.code yX1_allCasts cX1_allCasts 3 (some .int), Cond.methodLink RX7 83 yX7_settle, Cond.instanceMethod yX7_settle, Cond.selects RX7 yX7_settle yX7_settle, Cond.code yX7_settle cX7_settle 2 (some .int), Cond.methodLink RX7 132 yX7_isCode, Cond.static yX7_isCode, Cond.code yX7_isCode cX7_isCode 1 (some .boolean), Cond.methodLink RX7 136 yX3_keep, Cond.instanceMethod yX3_keep, Cond.selects RX3 yX3_keep yX3_keep, Cond.code yX3_keep cX3_keep 1 none, Cond.methodLink RX3 29 Lib.Math.min.name, Cond.methodLink RL 84 yX7_account, Cond.instanceMethod yX7_account, Cond.selects RX7 yX7_account yX7_account, Cond.code yX7_account cX7_account 2 (some .int), Cond.fieldLink RX7 287 "BowlsGreen$Green" "rain" "I", Cond.fieldLink RX7 290 "BowlsGreen$Green" "sun" "I"]
def wsL_law_r11 : List Cond := [Cond.fieldLink RX7 146 "BowlsGreen$Green" "rinkCount" "I", Cond.fieldLink RX7 167 "BowlsGreen$Green" "woodCount" "I", Cond.fieldLink RX7 275 "BowlsGreen$Green" "cups" "I", Cond.fieldLink RX7 405 "BowlsGreen$Green" "drunk" "I", Cond.fieldLink RX7 281 "BowlsGreen$Green" "swept" "I", Cond.methodLink RX7 399 yX1_endsPlayed, Cond.instanceMethod yX1_endsPlayed, Cond.selects RX1 yX1_endsPlayed yX1_endsPlayed, Cond.code yX1_endsPlayed cX1_endsPlayed 3 (some .int), Cond.methodLink RX1 152 yX5_isPlayed, Cond.methodLink RX7 396 yX1_endsClosed, Cond.instanceMethod yX1_endsClosed, Cond.selects RX1 yX1_endsClosed yX1_endsClosed, Cond.code yX1_endsClosed cX1_endsClosed 3 (some .int), Cond.fieldLink RX1 156 "BowlsGreen$Rink" "closed" "I", Cond.methodLink RX7 402 yX1_woodsBowled, Cond.instanceMethod yX1_woodsBowled, Cond.selects RX1 yX1_woodsBowled yX1_woodsBowled, Cond.code yX1_woodsBowled cX1_woodsBowled 3 (some .int), Cond.fieldLink RX1 149 "BowlsGreen$Wood" "bowled" "I", Cond.methodLink RX7 408 yX1_woodsInShed, Cond.instanceMethod yX1_woodsInShed, Cond.selects RX1 yX1_woodsInShed yX1_woodsInShed, Cond.code yX1_woodsInShed cX1_woodsInShed 1 (some .int)]
def wsL_law_r12 : List Cond := [Cond.methodLink RX1 145 yX1_woodsOfClubInShed, Cond.instanceMethod yX1_woodsOfClubInShed, Cond.selects RX1 yX1_woodsOfClubInShed yX1_woodsOfClubInShed, Cond.code yX1_woodsOfClubInShed cX1_woodsOfClubInShed 4 (some .int), Cond.fieldLink RX1 123 "BowlsGreen$Wood" "club" "I", Cond.fieldLink RX1 142 "BowlsGreen$Wood" "state" "I", Cond.methodLink RX7 67 yJ4_length_8abf5, Cond.instanceMethod yJ4_length_8abf5, Cond.selects RJ4 yJ4_length_8abf5 yJ4_length_8abf5, Cond.code yJ4_length_8abf5 cJ4_length_8abf5 1 (some .int), Cond.methodLink RJ4 343 yJ5_length_8abf5, Cond.sameMethod "java/lang/AbstractStringBuilder" "java/lang/AbstractStringBuilder" "length" "()I", Cond.superclass RJ4 RJ5, Cond.instanceMethod yJ5_length_8abf5, Cond.code yJ5_length_8abf5 cJ5_length_8abf5 1 (some .int), Cond.fieldLink RJ5 79 "java/lang/AbstractStringBuilder" "count" "I", Cond.methodLink RL 17 yX7_append, Cond.instanceMethod yX7_append, Cond.selects RX7 yX7_append yX7_append, Cond.code yX7_append cX7_append 2 (some .int), Cond.methodLink RX7 71 yJ4_append_cf468, Cond.instanceMethod yJ4_append_cf468, Cond.selects RJ4 yJ4_append_cf468 yJ4_append_cf468, Cond.code yJ4_append_cf468 cJ4_append_cf468 2 (some (.object "java/lang/StringBuilder"))]
def wsL_law_r13 : List Cond := [Cond.methodLink RJ4 50 yJ5_append_3fe6f, Cond.sameMethod "java/lang/AbstractStringBuilder" "java/lang/AbstractStringBuilder" "append" "(C)Ljava/lang/AbstractStringBuilder;", Cond.instanceMethod yJ5_append_3fe6f, Cond.code yJ5_append_3fe6f cJ5_append_3fe6f 2 (some (.object "java/lang/AbstractStringBuilder")), Cond.methodLink RJ5 100 ⟨"java/lang/AbstractStringBuilder", "ensureCapacityInternal", "(I)V"⟩, Cond.sameMethod "java/lang/AbstractStringBuilder" "java/lang/AbstractStringBuilder" "ensureCapacityInternal" "(I)V", Cond.selects RJ4 ⟨"java/lang/AbstractStringBuilder", "ensureCapacityInternal", "(I)V"⟩ yJ5_ensureCapacityInternal_d00df, Cond.instanceMethod yJ5_ensureCapacityInternal_d00df, Cond.code yJ5_ensureCapacityInternal_d00df cJ5_ensureCapacityInternal_d00df 3 none, Cond.methodLink RJ5 104 ⟨"java/lang/AbstractStringBuilder", "newCapacity", "(I)I"⟩, Cond.sameMethod "java/lang/AbstractStringBuilder" "java/lang/AbstractStringBuilder" "newCapacity" "(I)I", Cond.selects RJ4 ⟨"java/lang/AbstractStringBuilder", "newCapacity", "(I)I"⟩ yJ5_newCapacity_0f7a4, Cond.instanceMethod yJ5_newCapacity_0f7a4, Cond.code yJ5_newCapacity_0f7a4 cJ5_newCapacity_0f7a4 6 (some .int), Cond.constant RJ5 39 (2147483647), Cond.methodLink RJ5 114 yJ8_newLength_cabcc, Cond.static yJ8_newLength_cabcc, Cond.initialized RJ8, Cond.code yJ8_newLength_cabcc cJ8_newLength_cabcc 4 (some .int), Cond.methodLink RJ8 194 Lib.Math.max.name, Cond.constant RJ8 200 (2147483639), Cond.methodLink RJ8 201 yJ8_hugeLength_7cf53, Cond.static yJ8_hugeLength_7cf53, Cond.code yJ8_hugeLength_7cf53 cJ8_hugeLength_7cf53 3 (some .int)]
def wsL_law_r14 : List Cond := [Cond.methodLink RJ5 108 yJ7_copyOf_9075b, Cond.static yJ7_copyOf_9075b, Cond.initialized RJ7, Cond.code yJ7_copyOf_9075b cJ7_copyOf_9075b 3 (some (.array .byte)), Cond.methodLink RJ7 310 ⟨"[B", "clone", "()Ljava/lang/Object;"⟩, Cond.sameMethod "[B" "java/lang/Object" "clone" "()Ljava/lang/Object;", Cond.native ⟨"java/lang/Object", "clone", "()Ljava/lang/Object;"⟩, Cond.instanceMethod ⟨"java/lang/Object", "clone", "()Ljava/lang/Object;"⟩, Cond.selects "[B" ⟨"[B", "clone", "()Ljava/lang/Object;"⟩ ⟨"java/lang/Object", "clone", "()Ljava/lang/Object;"⟩, Cond.classLink RJ7 311 "[B", Cond.methodLink RJ7 304 Lib.Math.min.name, Cond.methodLink RJ7 150 arraycopyName, Cond.native arraycopyName, Cond.static arraycopyName, Cond.initialized "java/lang/System", Cond.methodLink RJ5 83 ⟨"java/lang/AbstractStringBuilder", "isLatin1", "()Z"⟩, Cond.sameMethod "java/lang/AbstractStringBuilder" "java/lang/AbstractStringBuilder" "isLatin1" "()Z", Cond.selects RJ4 ⟨"java/lang/AbstractStringBuilder", "isLatin1", "()Z"⟩ yJ5_isLatin1_aae02, Cond.instanceMethod yJ5_isLatin1_aae02, Cond.code yJ5_isLatin1_aae02 cJ5_isLatin1_aae02 1 (some .boolean), Cond.methodLink RJ5 191 yJ1_canEncode_fc78d, Cond.static yJ1_canEncode_fc78d, Cond.initialized RJ1, Cond.code yJ1_canEncode_fc78d cJ1_canEncode_fc78d 1 (some .boolean)]
def wsL_law_r15 : List Cond := [Cond.methodLink RJ5 195 ⟨"java/lang/AbstractStringBuilder", "inflate", "()V"⟩, Cond.sameMethod "java/lang/AbstractStringBuilder" "java/lang/AbstractStringBuilder" "inflate" "()V", Cond.selects RJ4 ⟨"java/lang/AbstractStringBuilder", "inflate", "()V"⟩ yJ5_inflate_da8c8, Cond.instanceMethod yJ5_inflate_da8c8, Cond.code yJ5_inflate_da8c8 cJ5_inflate_da8c8 2 none, Cond.methodLink RJ5 125 yJ1_inflate_0e8fd, Cond.static yJ1_inflate_0e8fd, Cond.code yJ1_inflate_0e8fd cJ1_inflate_0e8fd 5 none, Cond.methodLink RJ1 240 yJ2_inflate_0e8fd, Cond.static yJ2_inflate_0e8fd, Cond.code yJ2_inflate_0e8fd cJ2_inflate_0e8fd 6 none, Cond.methodLink RJ2 173 yJ2_checkBoundsOffCount_d044e, Cond.static yJ2_checkBoundsOffCount_d044e, Cond.code yJ2_checkBoundsOffCount_d044e cJ2_checkBoundsOffCount_d044e 3 none, Cond.methodLink RJ2 48 yJ2_length_9d52b, Cond.static yJ2_length_9d52b, Cond.code yJ2_length_9d52b cJ2_length_9d52b 1 (some .int), Cond.methodLink RJ2 419 yJ0_checkBoundsOffCount_cabcc, Cond.static yJ0_checkBoundsOffCount_cabcc, Cond.initialized RJ0, Cond.code yJ0_checkBoundsOffCount_cabcc cJ0_checkBoundsOffCount_cabcc 3 (some .int), Cond.fieldLink RJ0 1053 "jdk/internal/util/Preconditions" "SIOOBE_FORMATTER" "Ljava/util/function/BiFunction;", Cond.methodLink RJ0 1065 yJ3_checkFromIndexSize_8c36e, Cond.static yJ3_checkFromIndexSize_8c36e]
def wsL_law_r16 : List Cond := [Cond.initialized RJ3, Cond.code yJ3_checkFromIndexSize_8c36e cJ3_checkFromIndexSize_8c36e 4 (some .int), Cond.methodLink RJ2 111 yJ2_putChar_b72d1, Cond.static yJ2_putChar_b72d1, Cond.code yJ2_putChar_b72d1 cJ2_putChar_b72d1 3 none, Cond.fieldLink RJ2 44 "java/lang/StringUTF16" "$assertionsDisabled" "Z", Cond.fieldLink RJ2 59 "java/lang/StringUTF16" "HI_BYTE_SHIFT" "I", Cond.fieldLink RJ2 63 "java/lang/StringUTF16" "LO_BYTE_SHIFT" "I", Cond.methodLink RJ5 197 yJ2_putCharSB_b72d1, Cond.static yJ2_putCharSB_b72d1, Cond.code yJ2_putCharSB_b72d1 cJ2_putCharSB_b72d1 3 none, Cond.methodLink RJ2 67 yJ2_checkIndex_2214a, Cond.static yJ2_checkIndex_2214a, Cond.code yJ2_checkIndex_2214a cJ2_checkIndex_2214a 2 none, Cond.methodLink RJ2 414 yJ0_checkIndex_df160, Cond.static yJ0_checkIndex_df160, Cond.code yJ0_checkIndex_df160 cJ0_checkIndex_df160 2 none, Cond.methodLink RJ0 1059 yJ3_checkIndex_8e157, Cond.static yJ3_checkIndex_8e157, Cond.code yJ3_checkIndex_8e157 cJ3_checkIndex_8e157 3 (some .int), Cond.methodLink RL 23 yX7_script, Cond.instanceMethod yX7_script, Cond.selects RX7 yX7_script yX7_script, Cond.code yX7_script cX7_script 2 (some .int)]
def wsL_law_r17 : List Cond := [Cond.methodLink RX7 118 yX2_read, Cond.instanceMethod yX2_read, Cond.selects RX2 yX2_read yX2_read, Cond.code yX2_read cX2_read 3 (some .boolean), Cond.fieldLink RX2 18 "BowlsGreen$Orders" "count" "I", Cond.fieldLink RX2 22 "BowlsGreen$Orders" "position" "I", Cond.methodLink RX2 25 yX2_readOrder, Cond.instanceMethod yX2_readOrder, Cond.selects RX2 yX2_readOrder yX2_readOrder, Cond.code yX2_readOrder cX2_readOrder 7 (some .boolean), Cond.methodLink RX2 29 yJ4_length_8abf5, Cond.methodLink RX2 38 yJ4_charAt_5068e, Cond.instanceMethod yJ4_charAt_5068e, Cond.selects RJ4 yJ4_charAt_5068e yJ4_charAt_5068e, Cond.code yJ4_charAt_5068e cJ4_charAt_5068e 2 (some .char), Cond.methodLink RJ4 329 yJ5_charAt_5068e, Cond.sameMethod "java/lang/AbstractStringBuilder" "java/lang/AbstractStringBuilder" "charAt" "(I)C", Cond.instanceMethod yJ5_charAt_5068e, Cond.code yJ5_charAt_5068e cJ5_charAt_5068e 5 (some .char), Cond.methodLink RJ5 138 Lib.Math.min.name, Cond.methodLink RJ5 144 yJ0_checkIndex_df160, Cond.methodLink RJ5 148 yJ2_getChar_3b067, Cond.static yJ2_getChar_3b067, Cond.code yJ2_getChar_3b067 cJ2_getChar_3b067 2 (some .char)]
def wsL_law_r18 : List Cond := [Cond.methodLink RX2 42 yX2_formOf, Cond.static yX2_formOf, Cond.code yX2_formOf cX2_formOf 1 (some (.object "java/lang/String")), Cond.methodLink RX2 46 yJ0_isEmpty_aae02, Cond.instanceMethod yJ0_isEmpty_aae02, Cond.selects RJ0 yJ0_isEmpty_aae02 yJ0_isEmpty_aae02, Cond.code yJ0_isEmpty_aae02 cJ0_isEmpty_aae02 1 (some .boolean), Cond.fieldLink RJ0 9 "java/lang/String" "value" "[B", Cond.methodLink RX2 52 yJ0_length_8abf5, Cond.instanceMethod yJ0_length_8abf5, Cond.selects RJ0 yJ0_length_8abf5 yJ0_length_8abf5, Cond.code yJ0_length_8abf5 cJ0_length_8abf5 1 (some .int), Cond.methodLink RJ0 335 yJ0_coder_7d493, Cond.instanceMethod yJ0_coder_7d493, Cond.selects RJ0 yJ0_coder_7d493 yJ0_coder_7d493, Cond.code yJ0_coder_7d493 cJ0_coder_7d493 1 (some .byte), Cond.fieldLink RJ0 38 "java/lang/String" "COMPACT_STRINGS" "Z", Cond.fieldLink RJ0 15 "java/lang/String" "coder" "B", Cond.methodLink RX2 53 yJ0_charAt_5068e, Cond.instanceMethod yJ0_charAt_5068e, Cond.selects RJ0 yJ0_charAt_5068e yJ0_charAt_5068e, Cond.code yJ0_charAt_5068e cJ0_charAt_5068e 2 (some .char), Cond.methodLink RJ0 492 yJ0_isLatin1_aae02, Cond.instanceMethod yJ0_isLatin1_aae02]
def wsL_law_r19 : List Cond := [Cond.selects RJ0 yJ0_isLatin1_aae02 yJ0_isLatin1_aae02, Cond.code yJ0_isLatin1_aae02 cJ0_isLatin1_aae02 1 (some .boolean), Cond.methodLink RJ0 495 yJ1_charAt_3b067, Cond.static yJ1_charAt_3b067, Cond.code yJ1_charAt_3b067 cJ1_charAt_3b067 2 (some .char), Cond.methodLink RJ1 9 yJ0_checkIndex_df160, Cond.methodLink RJ0 498 yJ2_charAt_3b067, Cond.static yJ2_charAt_3b067, Cond.code yJ2_charAt_3b067 cJ2_charAt_3b067 2 (some .char), Cond.methodLink RJ2 71 yJ2_getChar_3b067, Cond.methodLink RX2 54 yX2_readPart, Cond.instanceMethod yX2_readPart, Cond.selects RX2 yX2_readPart yX2_readPart, Cond.code yX2_readPart cX2_readPart 4 (some .boolean), Cond.methodLink RX2 72 yX2_readDigits, Cond.instanceMethod yX2_readDigits, Cond.selects RX2 yX2_readDigits yX2_readDigits, Cond.code yX2_readDigits cX2_readDigits 6 (some .boolean), Cond.methodLink RX2 78 yX2_isDigit, Cond.static yX2_isDigit, Cond.code yX2_isDigit cX2_isDigit 1 (some .boolean), Cond.methodLink RX2 75 yX2_readSide, Cond.instanceMethod yX2_readSide, Cond.selects RX2 yX2_readSide yX2_readSide]
def wsL_law_r20 : List Cond := [Cond.code yX2_readSide cX2_readSide 3 (some .boolean), Cond.methodLink RX2 35 yX2_readSign, Cond.instanceMethod yX2_readSign, Cond.selects RX2 yX2_readSign yX2_readSign, Cond.code yX2_readSign cX2_readSign 3 (some .boolean), Cond.methodLink RX2 58 yX2_isKept, Cond.static yX2_isKept, Cond.code yX2_isKept cX2_isKept 1 (some .boolean), Cond.methodLink RX7 122 yX7_carryOutOrders, Cond.instanceMethod yX7_carryOutOrders, Cond.selects RX7 yX7_carryOutOrders yX7_carryOutOrders, Cond.code yX7_carryOutOrders cX7_carryOutOrders 3 (some .int), Cond.fieldLink RX7 313 "BowlsGreen$Orders" "count" "I", Cond.methodLink RX7 316 yX7_carryOut, Cond.instanceMethod yX7_carryOut, Cond.selects RX7 yX7_carryOut yX7_carryOut, Cond.code yX7_carryOut cX7_carryOut 4 (some .int), Cond.fieldLink RX7 328 "BowlsGreen$Orders" "signs" "[I", Cond.methodLink RX7 325 yX2_number, Cond.instanceMethod yX2_number, Cond.selects RX2 yX2_number yX2_number, Cond.code yX2_number cX2_number 3 (some .int), Cond.methodLink RX7 90 yX7_beginEnd, Cond.instanceMethod yX7_beginEnd]
def wsL_law_r21 : List Cond := [Cond.selects RX7 yX7_beginEnd yX7_beginEnd, Cond.code yX7_beginEnd cX7_beginEnd 4 (some .int), Cond.fieldLink RX7 155 "BowlsGreen$Green" "rinks" "[LBowlsGreen$Rink;", Cond.fieldLink RX7 186 "BowlsGreen$Rink" "jack" "I", Cond.fieldLink RX7 189 "BowlsGreen$Rink" "wet" "I", Cond.fieldLink RX7 201 "BowlsGreen$Rink" "turn" "I", Cond.methodLink RX7 179 yX1_isRink, Cond.instanceMethod yX1_isRink, Cond.selects RX1 yX1_isRink yX1_isRink, Cond.code yX1_isRink cX1_isRink 2 (some .boolean), Cond.methodLink RX7 182 yX5_isPlayed, Cond.methodLink RX7 149 yX7_refuse, Cond.instanceMethod yX7_refuse, Cond.selects RX7 yX7_refuse yX7_refuse, Cond.code yX7_refuse cX7_refuse 3 (some .int), Cond.methodLink RX7 139 yX4_empty, Cond.instanceMethod yX4_empty, Cond.selects RX4 yX4_empty yX4_empty, Cond.code yX4_empty cX4_empty 1 none, Cond.fieldLink RX4 18 "BowlsGreen$Reasons" "count" "I", Cond.methodLink RX7 142 yX4_put, Cond.instanceMethod yX4_put, Cond.selects RX4 yX4_put yX4_put, Cond.code yX4_put cX4_put 3 none]
def wsL_law_r22 : List Cond := [Cond.methodLink RX7 192 yX1_hoursUntilDry, Cond.instanceMethod yX1_hoursUntilDry, Cond.selects RX1 yX1_hoursUntilDry yX1_hoursUntilDry, Cond.code yX1_hoursUntilDry cX1_hoursUntilDry 4 (some .int), Cond.methodLink RX7 195 yX7_refuseWetRink, Cond.instanceMethod yX7_refuseWetRink, Cond.selects RX7 yX7_refuseWetRink yX7_refuseWetRink, Cond.code yX7_refuseWetRink cX7_refuseWetRink 3 (some .int), Cond.methodLink RX7 198 yX5_startEnd, Cond.instanceMethod yX5_startEnd, Cond.selects RX5 yX5_startEnd yX5_startEnd, Cond.code yX5_startEnd cX5_startEnd 2 none, Cond.methodLink RX7 93 yX7_bowlWood, Cond.instanceMethod yX7_bowlWood, Cond.selects RX7 yX7_bowlWood yX7_bowlWood, Cond.code yX7_bowlWood cX7_bowlWood 9 (some .int), Cond.fieldLink RX7 170 "BowlsGreen$Green" "woods" "[LBowlsGreen$Wood;", Cond.fieldLink RX7 220 "BowlsGreen$Rink" "bowled" "[I", Cond.fieldLink RX7 224 "BowlsGreen$Wood" "club" "I", Cond.fieldLink RX7 230 "BowlsGreen$Wood" "bowled" "I", Cond.fieldLink RX7 232 "BowlsGreen$Wood" "rink" "I", Cond.fieldLink RX7 235 "BowlsGreen$Wood" "state" "I", Cond.fieldLink RX7 238 "BowlsGreen$Wood" "column" "I", Cond.fieldLink RX7 241 "BowlsGreen$Wood" "length" "I"]
def wsL_law_r23 : List Cond := [Cond.fieldLink RX7 246 "BowlsGreen$Wood" "distance" "I", Cond.methodLink RX7 204 yX1_isWood, Cond.instanceMethod yX1_isWood, Cond.selects RX1 yX1_isWood yX1_isWood, Cond.code yX1_isWood cX1_isWood 2 (some .boolean), Cond.methodLink RX7 207 yX5_holds, Cond.instanceMethod yX5_holds, Cond.selects RX5 yX5_holds yX5_holds, Cond.code yX5_holds cX5_holds 2 (some .boolean), Cond.methodLink RX7 210 yX7_isStrength, Cond.static yX7_isStrength, Cond.code yX7_isStrength cX7_isStrength 1 (some .boolean), Cond.methodLink RX7 213 yX7_isBowlRefused, Cond.instanceMethod yX7_isBowlRefused, Cond.selects RX7 yX7_isBowlRefused yX7_isBowlRefused, Cond.code yX7_isBowlRefused cX7_isBowlRefused 6 (some .boolean), Cond.methodLink RX7 217 yX1_landing, Cond.instanceMethod yX1_landing, Cond.selects RX1 yX1_landing yX1_landing, Cond.code yX1_landing cX1_landing 11 (some .int), Cond.fieldLink RX1 77 "BowlsGreen$Wood" "bias" "I", Cond.methodLink RX1 92 yX5_holds, Cond.methodLink RX1 96 yX1_isTaken, Cond.instanceMethod yX1_isTaken]
def wsL_law_r24 : List Cond := [Cond.selects RX1 yX1_isTaken yX1_isTaken, Cond.code yX1_isTaken cX1_isTaken 7 (some .boolean), Cond.fieldLink RX1 103 "BowlsGreen$Wood" "column" "I", Cond.fieldLink RX1 106 "BowlsGreen$Wood" "length" "I", Cond.methodLink RX1 100 yX6_liesOn, Cond.instanceMethod yX6_liesOn, Cond.selects RX6 yX6_liesOn yX6_liesOn, Cond.code yX6_liesOn cX6_liesOn 2 (some .boolean), Cond.methodLink RX7 227 yX7_otherClub, Cond.static yX7_otherClub, Cond.code yX7_otherClub cX7_otherClub 1 (some .int), Cond.methodLink RX7 243 yX5_distance, Cond.instanceMethod yX5_distance, Cond.selects RX5 yX5_distance yX5_distance, Cond.code yX5_distance cX5_distance 5 (some .int), Cond.methodLink RX7 97 yX7_closeEnd, Cond.instanceMethod yX7_closeEnd, Cond.selects RX7 yX7_closeEnd yX7_closeEnd, Cond.code yX7_closeEnd cX7_closeEnd 5 (some .int), Cond.fieldLink RX7 251 "BowlsGreen$Green" "clubs" "[LBowlsGreen$Club;", Cond.fieldLink RX7 255 "BowlsGreen$Club" "shots" "I", Cond.fieldLink RX7 260 "BowlsGreen$Club" "ends" "I", Cond.fieldLink RX7 263 "BowlsGreen$Rink" "starter" "I", Cond.methodLink RX7 248 yX1_countShots]
def wsL_law_r25 : List Cond := [Cond.instanceMethod yX1_countShots, Cond.selects RX1 yX1_countShots yX1_countShots, Cond.code yX1_countShots cX1_countShots 4 (some .int), Cond.methodLink RX1 115 yX1_leastDistance, Cond.instanceMethod yX1_leastDistance, Cond.selects RX1 yX1_leastDistance yX1_leastDistance, Cond.code yX1_leastDistance cX1_leastDistance 5 (some .int), Cond.constant RX1 122 (1000000), Cond.fieldLink RX1 112 "BowlsGreen$Wood" "distance" "I", Cond.methodLink RX1 118 yX1_woodsNearerThan, Cond.instanceMethod yX1_woodsNearerThan, Cond.selects RX1 yX1_woodsNearerThan yX1_woodsNearerThan, Cond.code yX1_woodsNearerThan cX1_woodsNearerThan 6 (some .int), Cond.methodLink RX7 266 yX5_finishEnd, Cond.instanceMethod yX5_finishEnd, Cond.selects RX5 yX5_finishEnd yX5_finishEnd, Cond.code yX5_finishEnd cX5_finishEnd 1 none, Cond.methodLink RX7 269 yX1_bringWoodsToShed, Cond.instanceMethod yX1_bringWoodsToShed, Cond.selects RX1 yX1_bringWoodsToShed yX1_bringWoodsToShed, Cond.code yX1_bringWoodsToShed cX1_bringWoodsToShed 3 none, Cond.fieldLink RX1 139 "BowlsGreen$Wood" "rink" "I", Cond.methodLink RX7 100 yX7_sweepRink, Cond.instanceMethod yX7_sweepRink]
def wsL_law_r26 : List Cond := [Cond.selects RX7 yX7_sweepRink yX7_sweepRink, Cond.code yX7_sweepRink cX7_sweepRink 4 (some .int), Cond.fieldLink RX7 272 "BowlsGreen$Rink" "casts" "I", Cond.methodLink RX7 278 yX1_drink, Cond.instanceMethod yX1_drink, Cond.selects RX1 yX1_drink yX1_drink, Cond.code yX1_drink cX1_drink 2 none, Cond.methodLink RX7 103 yX7_setRain, Cond.instanceMethod yX7_setRain, Cond.selects RX7 yX7_setRain yX7_setRain, Cond.code yX7_setRain cX7_setRain 3 (some .int), Cond.methodLink RX7 284 yX7_isWeather, Cond.static yX7_isWeather, Cond.code yX7_isWeather cX7_isWeather 1 (some .boolean), Cond.methodLink RX7 106 yX7_setSun, Cond.instanceMethod yX7_setSun, Cond.selects RX7 yX7_setSun yX7_setSun, Cond.code yX7_setSun cX7_setSun 3 (some .int), Cond.methodLink RX7 112 yX7_giveTea, Cond.instanceMethod yX7_giveTea, Cond.selects RX7 yX7_giveTea yX7_giveTea, Cond.code yX7_giveTea cX7_giveTea 3 (some .int), Cond.fieldLink RX7 298 "BowlsGreen$Club" "coins" "I", Cond.fieldLink RX7 301 "BowlsGreen$Club" "teas" "I"]
def wsL_law_r27 : List Cond := [Cond.methodLink RX7 164 yX7_isClub, Cond.static yX7_isClub, Cond.code yX7_isClub cX7_isClub 1 (some .boolean), Cond.methodLink RX7 319 yX3_putBack, Cond.instanceMethod yX3_putBack, Cond.selects RX3 yX3_putBack yX3_putBack, Cond.code yX3_putBack cX3_putBack 2 none, Cond.methodLink RX7 322 yX7_refuseScript, Cond.instanceMethod yX7_refuseScript, Cond.selects RX7 yX7_refuseScript yX7_refuseScript, Cond.code yX7_refuseScript cX7_refuseScript 3 (some .int), Cond.methodLink RX7 125 yX7_keepFault, Cond.instanceMethod yX7_keepFault, Cond.selects RX7 yX7_keepFault yX7_keepFault, Cond.code yX7_keepFault cX7_keepFault 1 (some .int), Cond.fieldLink RX7 310 "BowlsGreen$Orders" "position" "I", Cond.methodLink RX7 128 yJ4_setLength_d00df, Cond.instanceMethod yJ4_setLength_d00df, Cond.selects RJ4 yJ4_setLength_d00df yJ4_setLength_d00df, Cond.code yJ4_setLength_d00df cJ4_setLength_d00df 2 none, Cond.methodLink RJ4 333 yJ5_setLength_d00df, Cond.sameMethod "java/lang/AbstractStringBuilder" "java/lang/AbstractStringBuilder" "setLength" "(I)V", Cond.instanceMethod yJ5_setLength_d00df, Cond.code yJ5_setLength_d00df cJ5_setLength_d00df 2 none]
def wsL_law_r28 : List Cond := [Cond.fieldLink RJ5 73 "java/lang/AbstractStringBuilder" "maybeLatin1" "Z", Cond.methodLink RJ5 133 yJ1_fillNull_b72d1, Cond.static yJ1_fillNull_b72d1, Cond.code yJ1_fillNull_b72d1 cJ1_fillNull_b72d1 3 none, Cond.methodLink RJ1 236 yJ7_fill_eb02e, Cond.static yJ7_fill_eb02e, Cond.code yJ7_fill_eb02e cJ7_fill_eb02e 5 none, Cond.methodLink RJ7 13 yJ7_rangeCheck_23922, Cond.static yJ7_rangeCheck_23922, Cond.code yJ7_rangeCheck_23922 cJ7_rangeCheck_23922 3 none, Cond.methodLink RJ5 137 yJ2_fillNull_b72d1, Cond.static yJ2_fillNull_b72d1, Cond.code yJ2_fillNull_b72d1 cJ2_fillNull_b72d1 3 none, Cond.methodLink RJ2 380 yJ7_fill_eb02e, Cond.methodLink RL 176 yX7_fault, Cond.instanceMethod yX7_fault, Cond.selects RX7 yX7_fault yX7_fault, Cond.code yX7_fault cX7_fault 1 (some .int), Cond.methodLink RL 47 yX7_rink, Cond.instanceMethod yX7_rink, Cond.selects RX7 yX7_rink yX7_rink, Cond.code yX7_rink cX7_rink 3 (some .int), Cond.methodLink RX7 79 yX7_layRink, Cond.instanceMethod yX7_layRink]
def wsL_law_r29 : List Cond := [Cond.selects RX7 yX7_layRink yX7_layRink, Cond.code yX7_layRink cX7_layRink 6 (some .int), Cond.methodLink RX7 152 yX1_lowestRinkWithin, Cond.instanceMethod yX1_lowestRinkWithin, Cond.selects RX1 yX1_lowestRinkWithin yX1_lowestRinkWithin, Cond.code yX1_lowestRinkWithin cX1_lowestRinkWithin 4 (some .int), Cond.fieldLink RX1 71 "BowlsGreen$Rink" "first" "I", Cond.fieldLink RX1 74 "BowlsGreen$Rink" "last" "I", Cond.methodLink RX7 159 yX5_lay, Cond.instanceMethod yX5_lay, Cond.selects RX5 yX5_lay yX5_lay, Cond.code yX5_lay cX5_lay 3 none, Cond.methodLink RL 50 yX7_wood, Cond.instanceMethod yX7_wood, Cond.selects RX7 yX7_wood yX7_wood, Cond.code yX7_wood cX7_wood 3 (some .int), Cond.methodLink RX7 87 yX7_addWood, Cond.instanceMethod yX7_addWood, Cond.selects RX7 yX7_addWood yX7_addWood, Cond.code yX7_addWood cX7_addWood 4 (some .int), Cond.methodLink RX7 174 yX6_make, Cond.instanceMethod yX6_make, Cond.selects RX6 yX6_make yX6_make, Cond.code yX6_make cX6_make 3 none]
def wsL_law_r30 : List Cond := [Cond.methodLink RL 181 yL_are, Cond.static yL_are, Cond.initialized RL, Cond.code yL_are cL_are 3 (some .boolean), Cond.methodLink RL 26 yX7_reason, Cond.instanceMethod yX7_reason, Cond.selects RX7 yX7_reason yX7_reason, Cond.code yX7_reason cX7_reason 3 (some .int), Cond.methodLink RX7 331 yX4_tell, Cond.instanceMethod yX4_tell, Cond.selects RX4 yX4_tell yX4_tell, Cond.code yX4_tell cX4_tell 4 (some .int), Cond.methodLink RL 140 yX7_tea, Cond.instanceMethod yX7_tea, Cond.selects RX7 yX7_tea yX7_tea, Cond.code yX7_tea cX7_tea 2 (some .int), Cond.methodLink RL 116 yX7_clubOf, Cond.instanceMethod yX7_clubOf, Cond.selects RX7 yX7_clubOf yX7_clubOf, Cond.code yX7_clubOf cX7_clubOf 4 (some .int), Cond.methodLink RX7 350 yX1_woodsOfClub, Cond.instanceMethod yX1_woodsOfClub, Cond.selects RX1 yX1_woodsOfClub yX1_woodsOfClub, Cond.code yX1_woodsOfClub cX1_woodsOfClub 4 (some .int)]
def wsL_law_r31 : List Cond := [Cond.methodLink RX7 353 yX1_woodsOfClubInShed, Cond.methodLink RL 137 yX7_brew, Cond.instanceMethod yX7_brew, Cond.selects RX7 yX7_brew yX7_brew, Cond.code yX7_brew cX7_brew 2 (some .int), Cond.methodLink RX7 109 yX7_brewCups, Cond.instanceMethod yX7_brewCups, Cond.selects RX7 yX7_brewCups yX7_brewCups, Cond.code yX7_brewCups cX7_brewCups 2 (some .int), Cond.methodLink RX7 293 Lib.Math.min.name, Cond.methodLink RL 53 yX7_rain, Cond.instanceMethod yX7_rain, Cond.selects RX7 yX7_rain yX7_rain, Cond.code yX7_rain cX7_rain 2 (some .int), Cond.methodLink RL 56 yX7_sun, Cond.instanceMethod yX7_sun, Cond.selects RX7 yX7_sun yX7_sun, Cond.code yX7_sun cX7_sun 2 (some .int), Cond.methodLink RL 74 yX7_meanWet, Cond.instanceMethod yX7_meanWet, Cond.selects RX7 yX7_meanWet yX7_meanWet, Cond.code yX7_meanWet cX7_meanWet 1 (some .float), Cond.methodLink RX7 393 yX1_allWet, Cond.instanceMethod yX1_allWet]
def wsL_law_r32 : List Cond := [Cond.selects RX1 yX1_allWet yX1_allWet, Cond.code yX1_allWet cX1_allWet 3 (some .int), Cond.methodLink RL 104 yX7_wetIn, Cond.instanceMethod yX7_wetIn, Cond.selects RX7 yX7_wetIn yX7_wetIn, Cond.code yX7_wetIn cX7_wetIn 3 (some .int), Cond.methodLink RX7 366 yX1_wetAhead, Cond.instanceMethod yX1_wetAhead, Cond.selects RX1 yX1_wetAhead yX1_wetAhead, Cond.code yX1_wetAhead cX1_wetAhead 5 (some .int), Cond.methodLink RL 107 yX7_castsIn, Cond.instanceMethod yX7_castsIn, Cond.selects RX7 yX7_castsIn yX7_castsIn, Cond.code yX7_castsIn cX7_castsIn 3 (some .int), Cond.methodLink RX7 369 yX1_castsAhead, Cond.instanceMethod yX1_castsAhead, Cond.selects RX1 yX1_castsAhead yX1_castsAhead, Cond.code yX1_castsAhead cX1_castsAhead 6 (some .int), Cond.methodLink RL 110 yX7_dryIn, Cond.instanceMethod yX7_dryIn, Cond.selects RX7 yX7_dryIn yX7_dryIn, Cond.code yX7_dryIn cX7_dryIn 3 (some .int), Cond.methodLink RL 87 yX7_rinkOf, Cond.instanceMethod yX7_rinkOf]
def wsL_law_r33 : List Cond := [Cond.selects RX7 yX7_rinkOf yX7_rinkOf, Cond.code yX7_rinkOf cX7_rinkOf 4 (some .int), Cond.fieldLink RX7 335 "BowlsGreen$Rink" "first" "I", Cond.fieldLink RX7 338 "BowlsGreen$Rink" "last" "I", Cond.fieldLink RX7 344 "BowlsGreen$Rink" "closed" "I", Cond.methodLink RX7 341 yX1_woodsOn, Cond.instanceMethod yX1_woodsOn, Cond.selects RX1 yX1_woodsOn yX1_woodsOn, Cond.code yX1_woodsOn cX1_woodsOn 5 (some .int), Cond.methodLink RL 125 yX7_begin, Cond.instanceMethod yX7_begin, Cond.selects RX7 yX7_begin yX7_begin, Cond.code yX7_begin cX7_begin 3 (some .int), Cond.methodLink RL 134 yX7_sweep, Cond.instanceMethod yX7_sweep, Cond.selects RX7 yX7_sweep yX7_sweep, Cond.code yX7_sweep cX7_sweep 2 (some .int), Cond.methodLink RL 93 yX7_would, Cond.instanceMethod yX7_would, Cond.selects RX7 yX7_would yX7_would, Cond.code yX7_would cX7_would 6 (some .int), Cond.methodLink RL 198 yL_isLine, Cond.static yL_isLine, Cond.code yL_isLine cL_isLine 4 (some .boolean)]
def wsL_law_r34 : List Cond := [Cond.methodLink RL 30 yX7_describe, Cond.instanceMethod yX7_describe, Cond.selects RX7 yX7_describe yX7_describe, Cond.code yX7_describe cX7_describe 5 (some .int), Cond.methodLink RX7 372 yJ4_append_bf812, Cond.instanceMethod yJ4_append_bf812, Cond.selects RJ4 yJ4_append_bf812 yJ4_append_bf812, Cond.code yJ4_append_bf812 cJ4_append_bf812 2 (some (.object "java/lang/StringBuilder")), Cond.methodLink RJ4 53 yJ5_append_c97b9, Cond.sameMethod "java/lang/AbstractStringBuilder" "java/lang/AbstractStringBuilder" "append" "(I)Ljava/lang/AbstractStringBuilder;", Cond.instanceMethod yJ5_append_c97b9, Cond.code yJ5_append_c97b9 cJ5_append_c97b9 4 (some (.object "java/lang/AbstractStringBuilder")), Cond.methodLink RJ5 245 yJ6_stringSize_0f7a4, Cond.static yJ6_stringSize_0f7a4, Cond.initialized RJ6, Cond.code yJ6_stringSize_0f7a4 cJ6_stringSize_0f7a4 4 (some .int), Cond.methodLink RJ5 248 yJ6_getChars_ba4f3, Cond.static yJ6_getChars_ba4f3, Cond.code yJ6_getChars_ba4f3 cJ6_getChars_ba4f3 7 (some .int), Cond.fieldLink RJ6 83 "java/lang/Integer" "DigitOnes" "[B", Cond.fieldLink RJ6 87 "java/lang/Integer" "DigitTens" "[B", Cond.methodLink RJ5 251 yJ2_getChars_46870, Cond.static yJ2_getChars_46870, Cond.code yJ2_getChars_46870 cJ2_getChars_46870 5 (some .int)]
def wsL_law_r35 : List Cond := [Cond.methodLink RJ2 96 yJ2_checkBoundsBeginEnd_d044e, Cond.static yJ2_checkBoundsBeginEnd_d044e, Cond.code yJ2_checkBoundsBeginEnd_d044e cJ2_checkBoundsBeginEnd_d044e 3 none, Cond.methodLink RJ2 241 yJ0_checkBoundsBeginEnd_23922, Cond.static yJ0_checkBoundsBeginEnd_23922, Cond.code yJ0_checkBoundsBeginEnd_23922 cJ0_checkBoundsBeginEnd_23922 3 none, Cond.methodLink RJ0 1062 yJ3_checkFromToIndex_8c36e, Cond.static yJ3_checkFromToIndex_8c36e, Cond.code yJ3_checkFromToIndex_8c36e cJ3_checkFromToIndex_8c36e 4 (some .int), Cond.methodLink RJ2 393 yJ2_getChars_ba4f3, Cond.static yJ2_getChars_ba4f3, Cond.code yJ2_getChars_ba4f3 cJ2_getChars_ba4f3 7 (some .int), Cond.fieldLink RJ2 403 "java/lang/Integer" "DigitOnes" "[B", Cond.fieldLink RJ2 407 "java/lang/Integer" "DigitTens" "[B", Cond.methodLink RX7 377 yJ4_append_15ec4, Cond.instanceMethod yJ4_append_15ec4, Cond.selects RJ4 yJ4_append_15ec4 yJ4_append_15ec4, Cond.code yJ4_append_15ec4 cJ4_append_15ec4 2 (some (.object "java/lang/StringBuilder")), Cond.methodLink RJ4 29 yJ5_append_cf1ce, Cond.sameMethod "java/lang/AbstractStringBuilder" "java/lang/AbstractStringBuilder" "append" "(Ljava/lang/String;)Ljava/lang/AbstractStringBuilder;", Cond.instanceMethod yJ5_append_cf1ce, Cond.code yJ5_append_cf1ce cJ5_append_cf1ce 3 (some (.object "java/lang/AbstractStringBuilder")), Cond.methodLink RJ5 204 ⟨"java/lang/AbstractStringBuilder", "appendNull", "()Ljava/lang/AbstractStringBuilder;"⟩, Cond.sameMethod "java/lang/AbstractStringBuilder" "java/lang/AbstractStringBuilder" "appendNull" "()Ljava/lang/AbstractStringBuilder;"]
def wsL_law_r36 : List Cond := [Cond.selects RJ4 ⟨"java/lang/AbstractStringBuilder", "appendNull", "()Ljava/lang/AbstractStringBuilder;"⟩ yJ5_appendNull_278bc, Cond.instanceMethod yJ5_appendNull_278bc, Cond.code yJ5_appendNull_278bc cJ5_appendNull_278bc 3 (some (.object "java/lang/AbstractStringBuilder")), Cond.methodLink RJ5 226 yJ2_putCharsAt_cd4e5, Cond.static yJ2_putCharsAt_cd4e5, Cond.code yJ2_putCharsAt_cd4e5 cJ2_putCharsAt_cd4e5 7 (some .int), Cond.methodLink RJ5 32 yJ0_length_8abf5, Cond.methodLink RJ5 208 ⟨"java/lang/AbstractStringBuilder", "putStringAt", "(ILjava/lang/String;)V"⟩, Cond.sameMethod "java/lang/AbstractStringBuilder" "java/lang/AbstractStringBuilder" "putStringAt" "(ILjava/lang/String;)V", Cond.selects RJ4 ⟨"java/lang/AbstractStringBuilder", "putStringAt", "(ILjava/lang/String;)V"⟩ yJ5_putStringAt_47b60, Cond.instanceMethod yJ5_putStringAt_47b60, Cond.code yJ5_putStringAt_47b60 cJ5_putStringAt_47b60 3 none, Cond.methodLink RJ5 397 ⟨"java/lang/AbstractStringBuilder", "inflateIfNeededFor", "(Ljava/lang/String;)V"⟩, Cond.sameMethod "java/lang/AbstractStringBuilder" "java/lang/AbstractStringBuilder" "inflateIfNeededFor" "(Ljava/lang/String;)V", Cond.selects RJ4 ⟨"java/lang/AbstractStringBuilder", "inflateIfNeededFor", "(Ljava/lang/String;)V"⟩ yJ5_inflateIfNeededFor_a7421, Cond.instanceMethod yJ5_inflateIfNeededFor_a7421, Cond.code yJ5_inflateIfNeededFor_a7421 cJ5_inflateIfNeededFor_a7421 2 none, Cond.methodLink RJ5 40 yJ0_coder_7d493, Cond.methodLink RJ5 399 yJ0_getBytes_840e7, Cond.instanceMethod yJ0_getBytes_840e7, Cond.selects RJ0 yJ0_getBytes_840e7 yJ0_getBytes_840e7, Cond.code yJ0_getBytes_840e7 cJ0_getBytes_840e7 4 none, Cond.methodLink RJ0 212 arraycopyName, Cond.methodLink RJ0 106 yJ1_inflate_0e8fd]
def wsL_law_r37 : List Cond := [Cond.methodLink RX7 359 yX1_woodInOrder, Cond.instanceMethod yX1_woodInOrder, Cond.selects RX1 yX1_woodInOrder yX1_woodInOrder, Cond.code yX1_woodInOrder cX1_woodInOrder 4 (some .int), Cond.methodLink RX1 109 yX1_woodsBefore, Cond.instanceMethod yX1_woodsBefore, Cond.selects RX1 yX1_woodsBefore yX1_woodsBefore, Cond.code yX1_woodsBefore cX1_woodsBefore 8 (some .int), Cond.methodLink RX7 386 yX7_writeWood, Cond.instanceMethod yX7_writeWood, Cond.selects RX7 yX7_writeWood yX7_writeWood, Cond.code yX7_writeWood cX7_writeWood 2 none, Cond.methodLink RL 7 yJ0_length_8abf5, Cond.methodLink RL 34 yX7_written, Cond.instanceMethod yX7_written, Cond.selects RX7 yX7_written yX7_written, Cond.code yX7_written cX7_written 2 (some .int), Cond.methodLink RX7 389 yJ4_charAt_5068e, Cond.methodLink RL 13 yJ0_charAt_5068e, Cond.methodLink RL 202 yX7_clear, Cond.instanceMethod yX7_clear, Cond.selects RX7 yX7_clear yX7_clear, Cond.code yX7_clear cX7_clear 2 (some .int), Cond.methodLink RX7 61 yX1_reset]
def wsL_law_r38 : List Cond := [Cond.methodLink RL 205 yL_makes, Cond.static yL_makes, Cond.code yL_makes cL_makes 4 (some .boolean), Cond.methodLink RL 37 yL_at, Cond.static yL_at, Cond.code yL_at cL_at 2 (some .int), Cond.methodLink RL 43 yL_some, Cond.static yL_some, Cond.code yL_some cL_some 3 (some .int), Cond.methodLink RL 128 yX7_bowl, Cond.instanceMethod yX7_bowl, Cond.selects RX7 yX7_bowl yX7_bowl, Cond.code yX7_bowl cX7_bowl 6 (some .int), Cond.methodLink RL 170 yL_asks, Cond.static yL_asks, Cond.code yL_asks cL_asks 7 (some .long), Cond.constantLong RL 62 (31), Cond.methodLink RL 64 yX7_winShare, Cond.instanceMethod yX7_winShare, Cond.selects RX7 yX7_winShare yX7_winShare, Cond.code yX7_winShare cX7_winShare 2 (some .double), Cond.methodLink RL 68 yJxe99ae_doubleToLongBits_ccdee, Cond.static yJxe99ae_doubleToLongBits_ccdee, Cond.initialized RJxe99ae]
def wsL_law_r39 : List Cond := [Cond.code yJxe99ae_doubleToLongBits_ccdee cJxe99ae_doubleToLongBits_ccdee 2 (some .long), Cond.methodLink RJxe99ae 134 ⟨"java/lang/Double", "doubleToRawLongBits", "(D)J"⟩, Cond.native ⟨"java/lang/Double", "doubleToRawLongBits", "(D)J"⟩, Cond.static ⟨"java/lang/Double", "doubleToRawLongBits", "(D)J"⟩, Cond.initialized "java/lang/Double", Cond.constantLong RJxe99ae 137 (9221120237041090560), Cond.methodLink RJxe99ae 122 yJxe99ae_isNaN_b9ae7, Cond.static yJxe99ae_isNaN_b9ae7, Cond.code yJxe99ae_isNaN_b9ae7 cJxe99ae_isNaN_b9ae7 2 (some .boolean), Cond.methodLink RL 78 yJxf58ca_floatToIntBits_5c35a, Cond.static yJxf58ca_floatToIntBits_5c35a, Cond.initialized RJxf58ca, Cond.code yJxf58ca_floatToIntBits_5c35a cJxf58ca_floatToIntBits_5c35a 1 (some .int), Cond.methodLink RJxf58ca 74 ⟨"java/lang/Float", "floatToRawIntBits", "(F)I"⟩, Cond.native ⟨"java/lang/Float", "floatToRawIntBits", "(F)I"⟩, Cond.static ⟨"java/lang/Float", "floatToRawIntBits", "(F)I"⟩, Cond.initialized "java/lang/Float", Cond.constant RJxf58ca 77 (2143289344), Cond.methodLink RJxf58ca 59 yJxf58ca_isNaN_12338, Cond.static yJxf58ca_isNaN_12338, Cond.code yJxf58ca_isNaN_12338 cJxf58ca_isNaN_12338 1 (some .boolean), Cond.methodLink RL 90 yX7_nearest, Cond.instanceMethod yX7_nearest, Cond.selects RX7 yX7_nearest yX7_nearest]
def wsL_law_r40 : List Cond := [Cond.code yX7_nearest cX7_nearest 3 (some .int), Cond.methodLink RL 97 yX7_bestStrength, Cond.instanceMethod yX7_bestStrength, Cond.selects RX7 yX7_bestStrength yX7_bestStrength, Cond.code yX7_bestStrength cX7_bestStrength 11 (some .int), Cond.constant RX7 365 (1000000), Cond.methodLink RL 101 yX7_shots, Cond.instanceMethod yX7_shots, Cond.selects RX7 yX7_shots yX7_shots, Cond.code yX7_shots cX7_shots 3 (some .int), Cond.methodLink RX7 362 yX1_countShotsInOrder, Cond.instanceMethod yX1_countShotsInOrder, Cond.selects RX1 yX1_countShotsInOrder yX1_countShotsInOrder, Cond.code yX1_countShotsInOrder cX1_countShotsInOrder 7 (some .int), Cond.methodLink RX1 129 yX1_woodInOrder, Cond.methodLink RX1 132 yX1_isWood, Cond.methodLink RX1 135 yX1_isMatched, Cond.instanceMethod yX1_isMatched, Cond.selects RX1 yX1_isMatched yX1_isMatched, Cond.code yX1_isMatched cX1_isMatched 5 (some .boolean), Cond.methodLink RL 113 yX7_woodOf, Cond.instanceMethod yX7_woodOf, Cond.selects RX7 yX7_woodOf yX7_woodOf, Cond.code yX7_woodOf cX7_woodOf 5 (some .int)]
def wsL_law_r41 : List Cond := [Cond.fieldLink RX7 347 "BowlsGreen$Wood" "bias" "I", Cond.methodLink RL 119 yX7_rinkAt, Cond.instanceMethod yX7_rinkAt, Cond.selects RX7 yX7_rinkAt yX7_rinkAt, Cond.code yX7_rinkAt cX7_rinkAt 2 (some .int), Cond.methodLink RX7 356 yX1_rinkInOrder, Cond.instanceMethod yX1_rinkInOrder, Cond.selects RX1 yX1_rinkInOrder yX1_rinkInOrder, Cond.code yX1_rinkInOrder cX1_rinkInOrder 5 (some .int), Cond.methodLink RL 122 yX7_leader, Cond.instanceMethod yX7_leader, Cond.selects RX7 yX7_leader yX7_leader, Cond.code yX7_leader cX7_leader 3 (some .int), Cond.methodLink RL 208 yL_refused, Cond.static yL_refused, Cond.code yL_refused cL_refused 9 (some .boolean), Cond.methodLink RL 131 yX7_close, Cond.instanceMethod yX7_close, Cond.selects RX7 yX7_close yX7_close, Cond.code yX7_close cX7_close 2 (some .int), Cond.methodLink RL 166 yL_reads, Cond.static yL_reads, Cond.code yL_reads cL_reads 3 (some .int), Cond.methodLink RL 212 yL_changes]
def wsL_law_r42 : List Cond := [Cond.static yL_changes, Cond.code yL_changes cL_changes 4 (some .boolean), Cond.classLink RL 143 RJ4, Cond.methodLink RL 145 yJ4_init_da8c8, Cond.methodLink RL 148 yJ4_append_15ec4, Cond.methodLink RL 151 yJ4_append_bf812, Cond.methodLink RL 156 yJ4_toString_0e30d, Cond.instanceMethod yJ4_toString_0e30d, Cond.selects RJ4 yJ4_toString_0e30d yJ4_toString_0e30d, Cond.code yJ4_toString_0e30d cJ4_toString_0e30d 1 (some (.object "java/lang/String")), Cond.classLink RJ4 18 RJ0, Cond.instantiable RJ0 4, Cond.methodLink RJ4 137 yJ0_init_81219, Cond.instanceMethod yJ0_init_81219, Cond.code yJ0_init_81219 cJ0_init_81219 2 none, Cond.methodLink RJ0 489 yJ0_init_db425, Cond.instanceMethod yJ0_init_db425, Cond.code yJ0_init_db425 cJ0_init_db425 5 none, Cond.methodLink RJ0 1 objectInit, Cond.fieldLink RJ0 1048 "java/lang/AbstractStringBuilder" "maybeLatin1" "Z", Cond.methodLink RJ0 552 ⟨"java/lang/AbstractStringBuilder", "getValue", "()[B"⟩, Cond.sameMethod "java/lang/AbstractStringBuilder" "java/lang/AbstractStringBuilder" "getValue" "()[B", Cond.selects RJ4 ⟨"java/lang/AbstractStringBuilder", "getValue", "()[B"⟩ yJ5_getValue_6d5f1, Cond.instanceMethod yJ5_getValue_6d5f1]
def wsL_law_r43 : List Cond := [Cond.code yJ5_getValue_6d5f1 cJ5_getValue_6d5f1 1 (some (.array .byte)), Cond.methodLink RJ0 549 ⟨"java/lang/AbstractStringBuilder", "length", "()I"⟩, Cond.instanceMethod ⟨"java/lang/AbstractStringBuilder", "length", "()I"⟩, Cond.selects RJ4 ⟨"java/lang/AbstractStringBuilder", "length", "()I"⟩ yJ4_length_8abf5, Cond.methodLink RJ0 1047 ⟨"java/lang/AbstractStringBuilder", "isLatin1", "()Z"⟩, Cond.methodLink RJ0 54 yJ7_copyOfRange_39247, Cond.static yJ7_copyOfRange_39247, Cond.code yJ7_copyOfRange_39247 cJ7_copyOfRange_39247 3 (some (.array .byte)), Cond.methodLink RJ7 339 yJ7_copyOfRangeByte_39247, Cond.static yJ7_copyOfRangeByte_39247, Cond.code yJ7_copyOfRangeByte_39247 cJ7_copyOfRangeByte_39247 5 (some (.array .byte)), Cond.methodLink RJ7 343 yJ7_checkLength_df160, Cond.static yJ7_checkLength_df160, Cond.code yJ7_checkLength_df160 cJ7_checkLength_df160 2 none, Cond.methodLink RJ0 1051 yJ2_compress_39247, Cond.static yJ2_compress_39247, Cond.code yJ2_compress_39247 cJ2_compress_39247 6 (some (.array .byte)), Cond.methodLink RJ2 123 yJ2_compress_5af95, Cond.static yJ2_compress_5af95, Cond.code yJ2_compress_5af95 cJ2_compress_5af95 7 (some .int), Cond.methodLink RJ2 126 yJ7_copyOfRange_39247, Cond.methodLink RJ0 47 yJ2_coderFromArrayLen_85cad, Cond.static yJ2_coderFromArrayLen_85cad, Cond.code yJ2_coderFromArrayLen_85cad cJ2_coderFromArrayLen_85cad 2 (some .byte)]
def wsL_law : List Cond := (wsL_law_r1 ++ (wsL_law_r2 ++ (wsL_law_r3 ++ (wsL_law_r4 ++ (wsL_law_r5 ++ (wsL_law_r6 ++ (wsL_law_r7 ++ (wsL_law_r8 ++ (wsL_law_r9 ++ (wsL_law_r10 ++ (wsL_law_r11 ++ (wsL_law_r12 ++ (wsL_law_r13 ++ (wsL_law_r14 ++ (wsL_law_r15 ++ (wsL_law_r16 ++ (wsL_law_r17 ++ (wsL_law_r18 ++ (wsL_law_r19 ++ (wsL_law_r20 ++ (wsL_law_r21 ++ (wsL_law_r22 ++ (wsL_law_r23 ++ (wsL_law_r24 ++ (wsL_law_r25 ++ (wsL_law_r26 ++ (wsL_law_r27 ++ (wsL_law_r28 ++ (wsL_law_r29 ++ (wsL_law_r30 ++ (wsL_law_r31 ++ (wsL_law_r32 ++ (wsL_law_r33 ++ (wsL_law_r34 ++ (wsL_law_r35 ++ (wsL_law_r36 ++ (wsL_law_r37 ++ (wsL_law_r38 ++ (wsL_law_r39 ++ (wsL_law_r40 ++ (wsL_law_r41 ++ (wsL_law_r42 ++ wsL_law_r43)))))))))))))))))))))))))))))))))))))))))) ++ wsX70 ++ wsX10 ++ wsX30 ++ wsJ40 ++ wsX20 ++ wsX40 ++ wsX50 ++ wsX60 ++ wsX00 ++ wsJ00 ++ ([] : List Cond)
/-! ===== END printed: names ===== -/
set_option maxRecDepth 20000 in
abbrev vwCl : List vw_C := [(RJ4, TJ4, 4), (RX0, TX0, 4), (RX1, TX1, 11), (RX2, TX2, 4), (RX3, TX3, 3), (RX4, TX4, 3), (RX5, TX5, 9), (RX6, TX6, 8), (RX7, TX7, 9), (RJ0, TJ0, 4)]

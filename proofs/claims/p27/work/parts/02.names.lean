/-! ===== BEGIN words of one list among another's, by their places ===== -/
theorem goodIn_r {big : List Cond} (ws : List Cond) (ps : List Nat) (hp : ws = ps.filterMap (fun i => big[i]?)) (h : ws.all goodWord = true) : GoodIn big ws := by
  intro w hw
  have h1 := List.all_eq_true.mp h w hw
  rw [hp] at hw
  obtain ⟨i, -, hi⟩ := List.mem_filterMap.mp hw
  have hm : w ∈ big := by first | exact List.mem_of_getElem? hi | exact List.getElem?_mem hi
  exact ⟨hm, good_of_word h1⟩
theorem goodIn_app {big a b : List Cond} (ha : GoodIn big a) (hb : GoodIn big b) : GoodIn big (a ++ b) := fun w h => (List.mem_append.mp h).elim (ha w) (hb w)
theorem goodIn_ca {big a b : List Cond} {c : Cond} (ha : GoodIn big (c :: a)) (hb : GoodIn big b) : GoodIn big (c :: (a ++ b)) := fun w h => (List.mem_cons.mp h).elim (fun e => ha w (List.mem_cons.mpr (Or.inl e))) (fun h => (List.mem_append.mp h).elim (fun h => ha w (List.mem_cons.mpr (Or.inr h))) (hb w))
theorem goodIn_sub {big ws : List Cond} (hm : ∀ w ∈ ws, w ∈ big) (h : ws.all goodWord = true) : GoodIn big ws := fun w hw => ⟨hm w hw, good_of_word (List.all_eq_true.mp h w hw)⟩
/-! ===== END ===== -/

/-! ===== BEGIN printed: names, fields, word lists, decode rows ===== -/
def RX0 : String := "LeanTower$Bells"
def TX0 : u_T := fun k => match k with
  | 0 => ("LeanTower$Bells", "nods", "[I", true)
  | 1 => ("LeanTower$Bells", "order", "[I", true)
  | 2 => ("LeanTower$Bells", "bells", "I", false)
  | 3 => ("LeanTower$Bells", "best", "[I", true)
  | _ => ("LeanTower$Bells", "least", "I", false)
def tyX0 : Nat → FieldType := fun k => match k with
  | 0 => .array .int
  | 1 => .array .int
  | 2 => .int
  | 3 => .array .int
  | _ => .int
abbrev wsX00 : List Cond := u_ws RX0 TX0 5
theorem nmX0 : ∀ a, a < 5 → ∀ b, b < 5 → a ≠ b → (TX0 a).2.1 ≠ (TX0 b).2.1 := by decide +kernel
theorem tyX0_ok : ∀ k, k < 5 → parseFieldDescriptor (TX0 k).2.2.1 = some (tyX0 k) := by decide +kernel
abbrev cX0_init : ByteArray := prog_2_method_1_code
def yX0_init : MethodName := ⟨RX0, "<init>", "()V"⟩
abbrev cX0_findBest : ByteArray := prog_2_method_2_code
def yX0_findBest : MethodName := ⟨RX0, "findBest", "([II)V"⟩
abbrev cX0_ringFrom : ByteArray := prog_2_method_3_code
def yX0_ringFrom : MethodName := ⟨RX0, "ringFrom", "(IIII)V"⟩
def RX1 : String := "LeanTower$Bishop"
def TX1 : u_T := fun k => match k with
  | 0 => ("LeanTower$Person", "number", "I", true)
  | 1 => ("LeanTower$Person", "burden", "I", true)
  | _ => ("LeanTower$Person", "pace", "I", true)
def tyX1 : Nat → FieldType := fun k => match k with
  | 0 => .int
  | 1 => .int
  | _ => .int
abbrev wsX10 : List Cond := u_ws RX1 TX1 3
theorem nmX1 : ∀ a, a < 3 → ∀ b, b < 3 → a ≠ b → (TX1 a).2.1 ≠ (TX1 b).2.1 := by decide +kernel
theorem tyX1_ok : ∀ k, k < 3 → parseFieldDescriptor (TX1 k).2.2.1 = some (tyX1 k) := by decide +kernel
abbrev cX1_init : ByteArray := prog_3_method_1_code
def yX1_init : MethodName := ⟨RX1, "<init>", "(III)V"⟩
abbrev cX1_ownKind : ByteArray := prog_3_method_2_code
def yX1_ownKind : MethodName := ⟨RX1, "ownKind", "()I"⟩
abbrev cX1_stride : ByteArray := prog_3_method_3_code
def yX1_stride : MethodName := ⟨RX1, "stride", "()I"⟩
abbrev cX1_size : ByteArray := prog_3_method_4_code
def yX1_size : MethodName := ⟨RX1, "size", "(LLeanTower$Trace;)I"⟩
def RX2 : String := "LeanTower$Boy"
def TX2 : u_T := fun k => match k with
  | 0 => ("LeanTower$Person", "number", "I", true)
  | 1 => ("LeanTower$Person", "burden", "I", true)
  | _ => ("LeanTower$Person", "pace", "I", true)
def tyX2 : Nat → FieldType := fun k => match k with
  | 0 => .int
  | 1 => .int
  | _ => .int
abbrev wsX20 : List Cond := u_ws RX2 TX2 3
theorem nmX2 : ∀ a, a < 3 → ∀ b, b < 3 → a ≠ b → (TX2 a).2.1 ≠ (TX2 b).2.1 := by decide +kernel
theorem tyX2_ok : ∀ k, k < 3 → parseFieldDescriptor (TX2 k).2.2.1 = some (tyX2 k) := by decide +kernel
abbrev cX2_init : ByteArray := prog_4_method_1_code
def yX2_init : MethodName := ⟨RX2, "<init>", "(III)V"⟩
abbrev cX2_ownKind : ByteArray := prog_4_method_2_code
def yX2_ownKind : MethodName := ⟨RX2, "ownKind", "()I"⟩
abbrev cX2_size : ByteArray := prog_4_method_3_code
def yX2_size : MethodName := ⟨RX2, "size", "(LLeanTower$Trace;)I"⟩
abbrev cX2_mark : ByteArray := prog_4_method_4_code
def yX2_mark : MethodName := ⟨RX2, "mark", "(LLeanTower$Trace;)I"⟩
def RX3 : String := "LeanTower$Monk"
def TX3 : u_T := fun k => match k with
  | 0 => ("LeanTower$Person", "number", "I", true)
  | 1 => ("LeanTower$Person", "burden", "I", true)
  | _ => ("LeanTower$Person", "pace", "I", true)
def tyX3 : Nat → FieldType := fun k => match k with
  | 0 => .int
  | 1 => .int
  | _ => .int
abbrev wsX30 : List Cond := u_ws RX3 TX3 3
theorem nmX3 : ∀ a, a < 3 → ∀ b, b < 3 → a ≠ b → (TX3 a).2.1 ≠ (TX3 b).2.1 := by decide +kernel
theorem tyX3_ok : ∀ k, k < 3 → parseFieldDescriptor (TX3 k).2.2.1 = some (tyX3 k) := by decide +kernel
abbrev cX3_init : ByteArray := prog_5_method_1_code
def yX3_init : MethodName := ⟨RX3, "<init>", "(III)V"⟩
abbrev cX3_ownKind : ByteArray := prog_5_method_2_code
def yX3_ownKind : MethodName := ⟨RX3, "ownKind", "()I"⟩
abbrev cX3_stride : ByteArray := prog_5_method_3_code
def yX3_stride : MethodName := ⟨RX3, "stride", "()I"⟩
abbrev cX3_size : ByteArray := prog_5_method_4_code
def yX3_size : MethodName := ⟨RX3, "size", "(LLeanTower$Trace;)I"⟩
abbrev cX3_mark : ByteArray := prog_5_method_5_code
def yX3_mark : MethodName := ⟨RX3, "mark", "(LLeanTower$Trace;)I"⟩
def RX4 : String := "LeanTower$Person"
def TX4 : u_T := fun k => match k with
  | _ => ("", "", "", false)
def tyX4 : Nat → FieldType := fun k => match k with
  | _ => .int
abbrev wsX40 : List Cond := u_ws RX4 TX4 0
theorem nmX4 : ∀ a, a < 0 → ∀ b, b < 0 → a ≠ b → (TX4 a).2.1 ≠ (TX4 b).2.1 := by decide +kernel
theorem tyX4_ok : ∀ k, k < 0 → parseFieldDescriptor (TX4 k).2.2.1 = some (tyX4 k) := by decide +kernel
abbrev cX4_init : ByteArray := prog_6_method_1_code
def yX4_init : MethodName := ⟨RX4, "<init>", "(III)V"⟩
abbrev cX4_stride : ByteArray := prog_6_method_3_code
def yX4_stride : MethodName := ⟨RX4, "stride", "()I"⟩
abbrev cX4_size : ByteArray := prog_6_method_4_code
def yX4_size : MethodName := ⟨RX4, "size", "(LLeanTower$Trace;)I"⟩
abbrev cX4_mark : ByteArray := prog_6_method_5_code
def yX4_mark : MethodName := ⟨RX4, "mark", "(LLeanTower$Trace;)I"⟩
def RX5 : String := "LeanTower$Pilgrim"
def TX5 : u_T := fun k => match k with
  | 0 => ("LeanTower$Person", "number", "I", true)
  | 1 => ("LeanTower$Person", "burden", "I", true)
  | _ => ("LeanTower$Person", "pace", "I", true)
def tyX5 : Nat → FieldType := fun k => match k with
  | 0 => .int
  | 1 => .int
  | _ => .int
abbrev wsX50 : List Cond := u_ws RX5 TX5 3
theorem nmX5 : ∀ a, a < 3 → ∀ b, b < 3 → a ≠ b → (TX5 a).2.1 ≠ (TX5 b).2.1 := by decide +kernel
theorem tyX5_ok : ∀ k, k < 3 → parseFieldDescriptor (TX5 k).2.2.1 = some (tyX5 k) := by decide +kernel
abbrev cX5_init : ByteArray := prog_7_method_1_code
def yX5_init : MethodName := ⟨RX5, "<init>", "(III)V"⟩
abbrev cX5_ownKind : ByteArray := prog_7_method_2_code
def yX5_ownKind : MethodName := ⟨RX5, "ownKind", "()I"⟩
abbrev cX5_size : ByteArray := prog_7_method_3_code
def yX5_size : MethodName := ⟨RX5, "size", "(LLeanTower$Trace;)I"⟩
abbrev cX5_mark : ByteArray := prog_7_method_4_code
def yX5_mark : MethodName := ⟨RX5, "mark", "(LLeanTower$Trace;)I"⟩
def RX6 : String := "LeanTower$Reader"
def TX6 : u_T := fun k => match k with
  | 0 => ("LeanTower$Reader", "tape", "[B", true)
  | 1 => ("LeanTower$Reader", "bytes", "I", false)
  | 2 => ("LeanTower$Reader", "latestFault", "I", false)
  | 3 => ("LeanTower$Reader", "faultPlace", "I", false)
  | 4 => ("LeanTower$Reader", "tokenStart", "I", false)
  | 5 => ("LeanTower$Reader", "tokenEnd", "I", false)
  | 6 => ("LeanTower$Reader", "token", "I", false)
  | _ => ("LeanTower$Reader", "tokenValue", "I", false)
def tyX6 : Nat → FieldType := fun k => match k with
  | 0 => .array .byte
  | 1 => .int
  | 2 => .int
  | 3 => .int
  | 4 => .int
  | 5 => .int
  | 6 => .int
  | _ => .int
abbrev wsX60 : List Cond := u_ws RX6 TX6 8
theorem nmX6 : ∀ a, a < 8 → ∀ b, b < 8 → a ≠ b → (TX6 a).2.1 ≠ (TX6 b).2.1 := by decide +kernel
theorem tyX6_ok : ∀ k, k < 8 → parseFieldDescriptor (TX6 k).2.2.1 = some (tyX6 k) := by decide +kernel
abbrev cX6_init : ByteArray := prog_8_method_1_code
def yX6_init : MethodName := ⟨RX6, "<init>", "()V"⟩
abbrev cX6_append : ByteArray := prog_8_method_2_code
def yX6_append : MethodName := ⟨RX6, "append", "(B)V"⟩
abbrev cX6_readInto : ByteArray := prog_8_method_3_code
def yX6_readInto : MethodName := ⟨RX6, "readInto", "(LLeanTower$Tower;)Z"⟩
abbrev cX6_readLaw : ByteArray := prog_8_method_4_code
def yX6_readLaw : MethodName := ⟨RX6, "readLaw", "(LLeanTower$Tower;)Z"⟩
abbrev cX6_readPerson : ByteArray := prog_8_method_5_code
def yX6_readPerson : MethodName := ⟨RX6, "readPerson", "(LLeanTower$Tower;)Z"⟩
abbrev cX6_readStone : ByteArray := prog_8_method_6_code
def yX6_readStone : MethodName := ⟨RX6, "readStone", "(LLeanTower$Tower;)Z"⟩
abbrev cX6_kindAtHand : ByteArray := prog_8_method_7_code
def yX6_kindAtHand : MethodName := ⟨RX6, "kindAtHand", "()I"⟩
abbrev cX6_newPerson : ByteArray := prog_8_method_8_code
def yX6_newPerson : MethodName := ⟨RX6, "newPerson", "(IIII)LLeanTower$Person;"⟩
abbrev cX6_number : ByteArray := prog_8_method_9_code
def yX6_number : MethodName := ⟨RX6, "number", "(II)I"⟩
abbrev cX6_passSemicolon : ByteArray := prog_8_method_10_code
def yX6_passSemicolon : MethodName := ⟨RX6, "passSemicolon", "()Z"⟩
abbrev cX6_refuse : ByteArray := prog_8_method_11_code
def yX6_refuse : MethodName := ⟨RX6, "refuse", "(I)Z"⟩
abbrev cX6_isWord : ByteArray := prog_8_method_12_code
def yX6_isWord : MethodName := ⟨RX6, "isWord", "(Ljava/lang/String;)Z"⟩
abbrev cX6_next : ByteArray := prog_8_method_13_code
def yX6_next : MethodName := ⟨RX6, "next", "()V"⟩
abbrev cX6_passLetters : ByteArray := prog_8_method_14_code
def yX6_passLetters : MethodName := ⟨RX6, "passLetters", "()V"⟩
abbrev cX6_passFigures : ByteArray := prog_8_method_15_code
def yX6_passFigures : MethodName := ⟨RX6, "passFigures", "()V"⟩
abbrev cX6_isBlank : ByteArray := prog_8_method_16_code
def yX6_isBlank : MethodName := ⟨RX6, "isBlank", "(B)Z"⟩
abbrev cX6_isLetter : ByteArray := prog_8_method_17_code
def yX6_isLetter : MethodName := ⟨RX6, "isLetter", "(B)Z"⟩
abbrev cX6_isFigure : ByteArray := prog_8_method_18_code
def yX6_isFigure : MethodName := ⟨RX6, "isFigure", "(B)Z"⟩
def RX7 : String := "LeanTower$Row"
def TX7 : u_T := fun k => match k with
  | 0 => ("LeanTower$Row", "items", "[I", true)
  | 1 => ("LeanTower$Row", "lane", "I", false)
  | _ => ("LeanTower$Row", "length", "I", false)
def tyX7 : Nat → FieldType := fun k => match k with
  | 0 => .array .int
  | 1 => .int
  | _ => .int
abbrev wsX70 : List Cond := u_ws RX7 TX7 3
theorem nmX7 : ∀ a, a < 3 → ∀ b, b < 3 → a ≠ b → (TX7 a).2.1 ≠ (TX7 b).2.1 := by decide +kernel
theorem tyX7_ok : ∀ k, k < 3 → parseFieldDescriptor (TX7 k).2.2.1 = some (tyX7 k) := by decide +kernel
abbrev cX7_init : ByteArray := prog_9_method_1_code
def yX7_init : MethodName := ⟨RX7, "<init>", "()V"⟩
abbrev cX7_isMissing : ByteArray := prog_9_method_2_code
def yX7_isMissing : MethodName := ⟨RX7, "isMissing", "()Z"⟩
abbrev cX7_begin : ByteArray := prog_9_method_3_code
def yX7_begin : MethodName := ⟨RX7, "begin", "(II)V"⟩
abbrev cX7_end : ByteArray := prog_9_method_4_code
def yX7_end : MethodName := ⟨RX7, "end", "()V"⟩
abbrev cX7_narrowed : ByteArray := prog_9_method_5_code
def yX7_narrowed : MethodName := ⟨RX7, "narrowed", "(I)I"⟩
abbrev cX7_reaches : ByteArray := prog_9_method_6_code
def yX7_reaches : MethodName := ⟨RX7, "reaches", "(II)Z"⟩
abbrev cX7_holds : ByteArray := prog_9_method_7_code
def yX7_holds : MethodName := ⟨RX7, "holds", "(III)Z"⟩
def RX8 : String := "LeanTower$Tower"
def TX8 : u_T := fun k => match k with
  | 0 => ("LeanTower$Tower", "steps", "I", false)
  | 1 => ("LeanTower$Tower", "law", "I", false)
  | 2 => ("LeanTower$Tower", "people", "I", false)
  | 3 => ("LeanTower$Tower", "stones", "I", false)
  | 4 => ("LeanTower$Tower", "persons", "[LLeanTower$Person;", true)
  | 5 => ("LeanTower$Tower", "step", "[I", true)
  | 6 => ("LeanTower$Tower", "way", "[I", true)
  | 7 => ("LeanTower$Tower", "stoneWeight", "[I", true)
  | 8 => ("LeanTower$Tower", "stoneSide", "[I", true)
  | 9 => ("LeanTower$Tower", "minute", "I", false)
  | 10 => ("LeanTower$Tower", "creptEast", "I", false)
  | _ => ("LeanTower$Tower", "creptNorth", "I", false)
def tyX8 : Nat → FieldType := fun k => match k with
  | 0 => .int
  | 1 => .int
  | 2 => .int
  | 3 => .int
  | 4 => .array (.object "LeanTower$Person")
  | 5 => .array .int
  | 6 => .array .int
  | 7 => .array .int
  | 8 => .array .int
  | 9 => .int
  | 10 => .int
  | _ => .int
abbrev wsX80 : List Cond := u_ws RX8 TX8 12
theorem nmX8 : ∀ a, a < 12 → ∀ b, b < 12 → a ≠ b → (TX8 a).2.1 ≠ (TX8 b).2.1 := by decide +kernel
theorem tyX8_ok : ∀ k, k < 12 → parseFieldDescriptor (TX8 k).2.2.1 = some (tyX8 k) := by decide +kernel
abbrev cX8_init : ByteArray := prog_10_method_1_code
def yX8_init : MethodName := ⟨RX8, "<init>", "()V"⟩
abbrev cX8_stands : ByteArray := prog_10_method_2_code
def yX8_stands : MethodName := ⟨RX8, "stands", "()Z"⟩
abbrev cX8_clear : ByteArray := prog_10_method_3_code
def yX8_clear : MethodName := ⟨RX8, "clear", "()V"⟩
abbrev cX8_takeFrom : ByteArray := prog_10_method_4_code
def yX8_takeFrom : MethodName := ⟨RX8, "takeFrom", "(LLeanTower$Tower;)V"⟩
abbrev cX8_addPerson : ByteArray := prog_10_method_5_code
def yX8_addPerson : MethodName := ⟨RX8, "addPerson", "(LLeanTower$Person;I)V"⟩
abbrev cX8_addStone : ByteArray := prog_10_method_6_code
def yX8_addStone : MethodName := ⟨RX8, "addStone", "(II)V"⟩
abbrev cX8_hasPerson : ByteArray := prog_10_method_7_code
def yX8_hasPerson : MethodName := ⟨RX8, "hasPerson", "(I)Z"⟩
abbrev cX8_hasStone : ByteArray := prog_10_method_8_code
def yX8_hasStone : MethodName := ⟨RX8, "hasStone", "(I)Z"⟩
abbrev cX8_who : ByteArray := prog_10_method_9_code
def yX8_who : MethodName := ⟨RX8, "who", "(I)LLeanTower$Person;"⟩
abbrev cX8_isOutside : ByteArray := prog_10_method_10_code
def yX8_isOutside : MethodName := ⟨RX8, "isOutside", "(I)Z"⟩
abbrev cX8_outsideSet : ByteArray := prog_10_method_11_code
def yX8_outsideSet : MethodName := ⟨RX8, "outsideSet", "()I"⟩
abbrev cX8_insideSet : ByteArray := prog_10_method_12_code
def yX8_insideSet : MethodName := ⟨RX8, "insideSet", "()I"⟩
abbrev cX8_sideOf : ByteArray := prog_10_method_13_code
def yX8_sideOf : MethodName := ⟨RX8, "sideOf", "(I)I"⟩
abbrev cX8_pull : ByteArray := prog_10_method_14_code
def yX8_pull : MethodName := ⟨RX8, "pull", "(III)I"⟩
abbrev cX8_leanWith : ByteArray := prog_10_method_15_code
def yX8_leanWith : MethodName := ⟨RX8, "leanWith", "(II)I"⟩
abbrev cX8_tiltWith : ByteArray := prog_10_method_16_code
def yX8_tiltWith : MethodName := ⟨RX8, "tiltWith", "(I)I"⟩
abbrev cX8_isBeyond : ByteArray := prog_10_method_17_code
def yX8_isBeyond : MethodName := ⟨RX8, "isBeyond", "()Z"⟩
abbrev cX8_passHalf : ByteArray := prog_10_method_18_code
def yX8_passHalf : MethodName := ⟨RX8, "passHalf", "()V"⟩
abbrev cX8_move : ByteArray := prog_10_method_19_code
def yX8_move : MethodName := ⟨RX8, "move", "(II)V"⟩
abbrev cX8_passYear : ByteArray := prog_10_method_20_code
def yX8_passYear : MethodName := ⟨RX8, "passYear", "()V"⟩
abbrev cX8_worstOver : ByteArray := prog_10_method_21_code
def yX8_worstOver : MethodName := ⟨RX8, "worstOver", "(I)I"⟩
abbrev cX8_firstBeyond : ByteArray := prog_10_method_22_code
def yX8_firstBeyond : MethodName := ⟨RX8, "firstBeyond", "(I)I"⟩
def RX9 : String := "LeanTower$Trace"
def TX9 : u_T := fun k => match k with
  | 0 => ("LeanTower$Trace", "numbers", "[I", true)
  | _ => ("LeanTower$Trace", "length", "I", false)
def tyX9 : Nat → FieldType := fun k => match k with
  | 0 => .array .int
  | _ => .int
abbrev wsX90 : List Cond := u_ws RX9 TX9 2
theorem nmX9 : ∀ a, a < 2 → ∀ b, b < 2 → a ≠ b → (TX9 a).2.1 ≠ (TX9 b).2.1 := by decide +kernel
theorem tyX9_ok : ∀ k, k < 2 → parseFieldDescriptor (TX9 k).2.2.1 = some (tyX9 k) := by decide +kernel
abbrev cX9_init : ByteArray := prog_11_method_1_code
def yX9_init : MethodName := ⟨RX9, "<init>", "()V"⟩
abbrev cX9_leave : ByteArray := prog_11_method_2_code
def yX9_leave : MethodName := ⟨RX9, "leave", "(I)V"⟩
def RX10 : String := "LeanTower$Widow"
def TX10 : u_T := fun k => match k with
  | 0 => ("LeanTower$Person", "number", "I", true)
  | 1 => ("LeanTower$Person", "burden", "I", true)
  | _ => ("LeanTower$Person", "pace", "I", true)
def tyX10 : Nat → FieldType := fun k => match k with
  | 0 => .int
  | 1 => .int
  | _ => .int
abbrev wsX100 : List Cond := u_ws RX10 TX10 3
theorem nmX10 : ∀ a, a < 3 → ∀ b, b < 3 → a ≠ b → (TX10 a).2.1 ≠ (TX10 b).2.1 := by decide +kernel
theorem tyX10_ok : ∀ k, k < 3 → parseFieldDescriptor (TX10 k).2.2.1 = some (tyX10 k) := by decide +kernel
abbrev cX10_init : ByteArray := prog_12_method_1_code
def yX10_init : MethodName := ⟨RX10, "<init>", "(III)V"⟩
abbrev cX10_ownKind : ByteArray := prog_12_method_2_code
def yX10_ownKind : MethodName := ⟨RX10, "ownKind", "()I"⟩
abbrev cX10_mark : ByteArray := prog_12_method_3_code
def yX10_mark : MethodName := ⟨RX10, "mark", "(LLeanTower$Trace;)I"⟩
def RX11 : String := "LeanTower"
def TX11 : u_T := fun k => match k with
  | 0 => ("LeanTower", "rows", "[LLeanTower$Row;", true)
  | 1 => ("LeanTower", "reader", "LLeanTower$Reader;", true)
  | 2 => ("LeanTower", "now", "LLeanTower$Tower;", true)
  | 3 => ("LeanTower", "trial", "LLeanTower$Tower;", true)
  | 4 => ("LeanTower", "before", "[LLeanTower$Tower;", true)
  | 5 => ("LeanTower", "oldestAct", "I", false)
  | 6 => ("LeanTower", "actCount", "I", false)
  | 7 => ("LeanTower", "images", "[LLeanTower$Tower;", true)
  | 8 => ("LeanTower", "bodies", "LLeanTower$Trace;", true)
  | 9 => ("LeanTower", "belfry", "LLeanTower$Bells;", true)
  | 10 => ("LeanTower", "rescuable", "[Z", true)
  | 11 => ("LeanTower", "reach", "[I", true)
  | _ => ("LeanTower", "latestFinding", "I", false)
def tyX11 : Nat → FieldType := fun k => match k with
  | 0 => .array (.object "LeanTower$Row")
  | 1 => .object "LeanTower$Reader"
  | 2 => .object "LeanTower$Tower"
  | 3 => .object "LeanTower$Tower"
  | 4 => .array (.object "LeanTower$Tower")
  | 5 => .int
  | 6 => .int
  | 7 => .array (.object "LeanTower$Tower")
  | 8 => .object "LeanTower$Trace"
  | 9 => .object "LeanTower$Bells"
  | 10 => .array .boolean
  | 11 => .array .int
  | _ => .int
abbrev wsX110 : List Cond := u_ws RX11 TX11 13
theorem nmX11 : ∀ a, a < 13 → ∀ b, b < 13 → a ≠ b → (TX11 a).2.1 ≠ (TX11 b).2.1 := by decide +kernel
theorem tyX11_ok : ∀ k, k < 13 → parseFieldDescriptor (TX11 k).2.2.1 = some (tyX11 k) := by decide +kernel
abbrev cX11_init : ByteArray := prog_1_method_1_code
def yX11_init : MethodName := ⟨RX11, "<init>", "()V"⟩
abbrev cX11_row : ByteArray := prog_1_method_2_code
def yX11_row : MethodName := ⟨RX11, "row", "(III)I"⟩
abbrev cX11_set : ByteArray := prog_1_method_3_code
def yX11_set : MethodName := ⟨RX11, "set", "(III)I"⟩
abbrev cX11_copy : ByteArray := prog_1_method_4_code
def yX11_copy : MethodName := ⟨RX11, "copy", "(IIIII)I"⟩
abbrev cX11_drop : ByteArray := prog_1_method_5_code
def yX11_drop : MethodName := ⟨RX11, "drop", "(I)I"⟩
abbrev cX11_feed : ByteArray := prog_1_method_6_code
def yX11_feed : MethodName := ⟨RX11, "feed", "(JI)I"⟩
abbrev cX11_tower : ByteArray := prog_1_method_7_code
def yX11_tower : MethodName := ⟨RX11, "tower", "()I"⟩
abbrev cX11_fault : ByteArray := prog_1_method_8_code
def yX11_fault : MethodName := ⟨RX11, "fault", "()I"⟩
abbrev cX11_go : ByteArray := prog_1_method_9_code
def yX11_go : MethodName := ⟨RX11, "go", "(II)I"⟩
abbrev cX11_hang : ByteArray := prog_1_method_10_code
def yX11_hang : MethodName := ⟨RX11, "hang", "(II)I"⟩
abbrev cX11_halves : ByteArray := prog_1_method_11_code
def yX11_halves : MethodName := ⟨RX11, "halves", "(I)I"⟩
abbrev cX11_year : ByteArray := prog_1_method_12_code
def yX11_year : MethodName := ⟨RX11, "year", "()I"⟩
abbrev cX11_undo : ByteArray := prog_1_method_13_code
def yX11_undo : MethodName := ⟨RX11, "undo", "()I"⟩
abbrev cX11_person : ByteArray := prog_1_method_14_code
def yX11_person : MethodName := ⟨RX11, "person", "(II)I"⟩
abbrev cX11_lean : ByteArray := prog_1_method_15_code
def yX11_lean : MethodName := ⟨RX11, "lean", "(I)I"⟩
abbrev cX11_worst : ByteArray := prog_1_method_16_code
def yX11_worst : MethodName := ⟨RX11, "worst", "(I)I"⟩
abbrev cX11_most : ByteArray := prog_1_method_17_code
def yX11_most : MethodName := ⟨RX11, "most", "()I"⟩
abbrev cX11_two : ByteArray := prog_1_method_18_code
def yX11_two : MethodName := ⟨RX11, "two", "(III)I"⟩
abbrev cX11_stones : ByteArray := prog_1_method_19_code
def yX11_stones : MethodName := ⟨RX11, "stones", "(I)I"⟩
abbrev cX11_marks : ByteArray := prog_1_method_20_code
def yX11_marks : MethodName := ⟨RX11, "marks", "(IIII)I"⟩
abbrev cX11_rescue : ByteArray := prog_1_method_21_code
def yX11_rescue : MethodName := ⟨RX11, "rescue", "(I)I"⟩
abbrev cX11_fall : ByteArray := prog_1_method_22_code
def yX11_fall : MethodName := ⟨RX11, "fall", "()I"⟩
abbrev cX11_bells : ByteArray := prog_1_method_23_code
def yX11_bells : MethodName := ⟨RX11, "bells", "(III)I"⟩
abbrev cX11_image : ByteArray := prog_1_method_24_code
def yX11_image : MethodName := ⟨RX11, "image", "(I)I"⟩
abbrev cX11_restore : ByteArray := prog_1_method_25_code
def yX11_restore : MethodName := ⟨RX11, "restore", "(I)I"⟩
abbrev cX11_kind : ByteArray := prog_1_method_26_code
def yX11_kind : MethodName := ⟨RX11, "kind", "(I)I"⟩
abbrev cX11_as : ByteArray := prog_1_method_27_code
def yX11_as : MethodName := ⟨RX11, "as", "(II)I"⟩
abbrev cX11_ask : ByteArray := prog_1_method_28_code
def yX11_ask : MethodName := ⟨RX11, "ask", "(II)I"⟩
abbrev cX11_trace : ByteArray := prog_1_method_29_code
def yX11_trace : MethodName := ⟨RX11, "trace", "(I)I"⟩
abbrev cX11_count : ByteArray := prog_1_method_30_code
def yX11_count : MethodName := ⟨RX11, "count", "(I)I"⟩
abbrev cX11_status : ByteArray := prog_1_method_31_code
def yX11_status : MethodName := ⟨RX11, "status", "()I"⟩
abbrev cX11_rowAt : ByteArray := prog_1_method_32_code
def yX11_rowAt : MethodName := ⟨RX11, "rowAt", "(I)LLeanTower$Row;"⟩
abbrev cX11_rowsThere : ByteArray := prog_1_method_33_code
def yX11_rowsThere : MethodName := ⟨RX11, "rowsThere", "()I"⟩
abbrev cX11_found : ByteArray := prog_1_method_34_code
def yX11_found : MethodName := ⟨RX11, "found", "(I)I"⟩
abbrev cX11_clean : ByteArray := prog_1_method_35_code
def yX11_clean : MethodName := ⟨RX11, "clean", "(I)I"⟩
abbrev cX11_keepAct : ByteArray := prog_1_method_36_code
def yX11_keepAct : MethodName := ⟨RX11, "keepAct", "()V"⟩
abbrev cX11_mayGoUp : ByteArray := prog_1_method_37_code
def yX11_mayGoUp : MethodName := ⟨RX11, "mayGoUp", "(I)Z"⟩
abbrev cX11_worstOfTwo : ByteArray := prog_1_method_38_code
def yX11_worstOfTwo : MethodName := ⟨RX11, "worstOfTwo", "(III)I"⟩
abbrev cX11_measureReach : ByteArray := prog_1_method_39_code
def yX11_measureReach : MethodName := ⟨RX11, "measureReach", "()V"⟩
abbrev cX11_worstOfHanging : ByteArray := prog_1_method_40_code
def yX11_worstOfHanging : MethodName := ⟨RX11, "worstOfHanging", "(I)I"⟩
abbrev cX11_sideIn : ByteArray := prog_1_method_41_code
def yX11_sideIn : MethodName := ⟨RX11, "sideIn", "(II)I"⟩
abbrev cX11_isMark : ByteArray := prog_1_method_42_code
def yX11_isMark : MethodName := ⟨RX11, "isMark", "(I)Z"⟩
abbrev cX11_setThatMakes : ByteArray := prog_1_method_43_code
def yX11_setThatMakes : MethodName := ⟨RX11, "setThatMakes", "(III)I"⟩
abbrev cX11_findRescuable : ByteArray := prog_1_method_44_code
def yX11_findRescuable : MethodName := ⟨RX11, "findRescuable", "(I)V"⟩
abbrev cX11_nextOut : ByteArray := prog_1_method_45_code
def yX11_nextOut : MethodName := ⟨RX11, "nextOut", "(I)I"⟩
abbrev cX11_isOne : ByteArray := prog_1_method_46_code
def yX11_isOne : MethodName := ⟨RX11, "isOne", "(LLeanTower$Person;I)Z"⟩
def RX12 : String := "LeanTowerModel"
def TX12 : u_T := fun k => match k with
  | 0 => ("LeanTowerModel", "w", "[I", true)
  | 1 => ("LeanTowerModel", "isKept", "[Z", true)
  | 2 => ("LeanTowerModel", "items", "[I", true)
  | 3 => ("LeanTowerModel", "lanes", "[I", true)
  | 4 => ("LeanTowerModel", "sizes", "[I", true)
  | 5 => ("LeanTowerModel", "tape", "[I", true)
  | 6 => ("LeanTowerModel", "taped", "I", false)
  | 7 => ("LeanTowerModel", "latest", "I", false)
  | 8 => ("LeanTowerModel", "status", "I", false)
  | 9 => ("LeanTowerModel", "undoable", "I", false)
  | 10 => ("LeanTowerModel", "hand", "[I", true)
  | 11 => ("LeanTowerModel", "at", "I", false)
  | 12 => ("LeanTowerModel", "from", "I", false)
  | 13 => ("LeanTowerModel", "token", "I", false)
  | 14 => ("LeanTowerModel", "letters", "J", false)
  | 15 => ("LeanTowerModel", "figures", "I", false)
  | 16 => ("LeanTowerModel", "fault", "I", false)
  | 17 => ("LeanTowerModel", "firstBeyond", "I", false)
  | 18 => ("LeanTowerModel", "canAll", "[Z", true)
  | 19 => ("LeanTowerModel", "traces", "[I", true)
  | _ => ("LeanTowerModel", "traced", "I", false)
def tyX12 : Nat → FieldType := fun k => match k with
  | 0 => .array .int
  | 1 => .array .boolean
  | 2 => .array .int
  | 3 => .array .int
  | 4 => .array .int
  | 5 => .array .int
  | 6 => .int
  | 7 => .int
  | 8 => .int
  | 9 => .int
  | 10 => .array .int
  | 11 => .int
  | 12 => .int
  | 13 => .int
  | 14 => .long
  | 15 => .int
  | 16 => .int
  | 17 => .int
  | 18 => .array .boolean
  | 19 => .array .int
  | _ => .int
abbrev wsX120 : List Cond := u_ws RX12 TX12 21
theorem nmX12 : ∀ a, a < 21 → ∀ b, b < 21 → a ≠ b → (TX12 a).2.1 ≠ (TX12 b).2.1 := by decide +kernel
theorem tyX12_ok : ∀ k, k < 21 → parseFieldDescriptor (TX12 k).2.2.1 = some (tyX12 k) := by decide +kernel
abbrev cX12_init : ByteArray := prog_14_method_1_code
def yX12_init : MethodName := ⟨RX12, "<init>", "()V"⟩
abbrev cX12_in : ByteArray := prog_14_method_3_code
def yX12_in : MethodName := ⟨RX12, "in", "(JJJ)Z"⟩
abbrev cX12_has : ByteArray := prog_14_method_4_code
def yX12_has : MethodName := ⟨RX12, "has", "(II)Z"⟩
abbrev cX12_sizeOf : ByteArray := prog_14_method_5_code
def yX12_sizeOf : MethodName := ⟨RX12, "sizeOf", "(I)I"⟩
abbrev cX12_greater : ByteArray := prog_14_method_6_code
def yX12_greater : MethodName := ⟨RX12, "greater", "(II)I"⟩
abbrev cX12_ones : ByteArray := prog_14_method_7_code
def yX12_ones : MethodName := ⟨RX12, "ones", "(I)I"⟩
abbrev cX12_copyAll : ByteArray := prog_14_method_8_code
def yX12_copyAll : MethodName := ⟨RX12, "copyAll", "(II)V"⟩
abbrev cX12_isRow : ByteArray := prog_14_method_9_code
def yX12_isRow : MethodName := ⟨RX12, "isRow", "(I)Z"⟩
abbrev cX12_met : ByteArray := prog_14_method_10_code
def yX12_met : MethodName := ⟨RX12, "met", "(I)I"⟩
abbrev cX12_fine : ByteArray := prog_14_method_11_code
def yX12_fine : MethodName := ⟨RX12, "fine", "(I)I"⟩
abbrev cX12_cut : ByteArray := prog_14_method_12_code
def yX12_cut : MethodName := ⟨RX12, "cut", "(II)I"⟩
abbrev cX12_row : ByteArray := prog_14_method_13_code
def yX12_row : MethodName := ⟨RX12, "row", "(III)I"⟩
abbrev cX12_set : ByteArray := prog_14_method_14_code
def yX12_set : MethodName := ⟨RX12, "set", "(III)I"⟩
abbrev cX12_copy : ByteArray := prog_14_method_15_code
def yX12_copy : MethodName := ⟨RX12, "copy", "(IIIII)I"⟩
abbrev cX12_drop : ByteArray := prog_14_method_16_code
def yX12_drop : MethodName := ⟨RX12, "drop", "(I)I"⟩
abbrev cX12_feed : ByteArray := prog_14_method_17_code
def yX12_feed : MethodName := ⟨RX12, "feed", "(JI)I"⟩
abbrev cX12_next : ByteArray := prog_14_method_18_code
def yX12_next : MethodName := ⟨RX12, "next", "()V"⟩
abbrev cX12_fails : ByteArray := prog_14_method_19_code
def yX12_fails : MethodName := ⟨RX12, "fails", "(I)I"⟩
abbrev cX12_takeNumber : ByteArray := prog_14_method_20_code
def yX12_takeNumber : MethodName := ⟨RX12, "takeNumber", "(III)I"⟩
abbrev cX12_takeSign : ByteArray := prog_14_method_21_code
def yX12_takeSign : MethodName := ⟨RX12, "takeSign", "()V"⟩
abbrev cX12_takeLaw : ByteArray := prog_14_method_22_code
def yX12_takeLaw : MethodName := ⟨RX12, "takeLaw", "()V"⟩
abbrev cX12_takePerson : ByteArray := prog_14_method_23_code
def yX12_takePerson : MethodName := ⟨RX12, "takePerson", "()V"⟩
abbrev cX12_takeStone : ByteArray := prog_14_method_24_code
def yX12_takeStone : MethodName := ⟨RX12, "takeStone", "()V"⟩
abbrev cX12_sortOf : ByteArray := prog_14_method_25_code
def yX12_sortOf : MethodName := ⟨RX12, "sortOf", "(J)I"⟩
abbrev cX12_tower : ByteArray := prog_14_method_26_code
def yX12_tower : MethodName := ⟨RX12, "tower", "()I"⟩
abbrev cX12_fault : ByteArray := prog_14_method_27_code
def yX12_fault : MethodName := ⟨RX12, "fault", "()I"⟩
abbrev cX12_isTower : ByteArray := prog_14_method_28_code
def yX12_isTower : MethodName := ⟨RX12, "isTower", "()Z"⟩
abbrev cX12_isOne : ByteArray := prog_14_method_29_code
def yX12_isOne : MethodName := ⟨RX12, "isOne", "(I)Z"⟩
abbrev cX12_burdenOf : ByteArray := prog_14_method_30_code
def yX12_burdenOf : MethodName := ⟨RX12, "burdenOf", "(I)I"⟩
abbrev cX12_sideOf : ByteArray := prog_14_method_31_code
def yX12_sideOf : MethodName := ⟨RX12, "sideOf", "(I)I"⟩
abbrev cX12_pull : ByteArray := prog_14_method_32_code
def yX12_pull : MethodName := ⟨RX12, "pull", "(IZ)I"⟩
abbrev cX12_leanOf : ByteArray := prog_14_method_33_code
def yX12_leanOf : MethodName := ⟨RX12, "leanOf", "(IZ)I"⟩
abbrev cX12_worstOf : ByteArray := prog_14_method_34_code
def yX12_worstOf : MethodName := ⟨RX12, "worstOf", "(I)I"⟩
abbrev cX12_half : ByteArray := prog_14_method_35_code
def yX12_half : MethodName := ⟨RX12, "half", "(I)V"⟩
abbrev cX12_minds : ByteArray := prog_14_method_36_code
def yX12_minds : MethodName := ⟨RX12, "minds", "()V"⟩
abbrev cX12_go : ByteArray := prog_14_method_37_code
def yX12_go : MethodName := ⟨RX12, "go", "(II)I"⟩
abbrev cX12_hang : ByteArray := prog_14_method_38_code
def yX12_hang : MethodName := ⟨RX12, "hang", "(II)I"⟩
abbrev cX12_halves : ByteArray := prog_14_method_39_code
def yX12_halves : MethodName := ⟨RX12, "halves", "(I)I"⟩
abbrev cX12_creep : ByteArray := prog_14_method_40_code
def yX12_creep : MethodName := ⟨RX12, "creep", "(I)V"⟩
abbrev cX12_year : ByteArray := prog_14_method_41_code
def yX12_year : MethodName := ⟨RX12, "year", "()I"⟩
abbrev cX12_undo : ByteArray := prog_14_method_42_code
def yX12_undo : MethodName := ⟨RX12, "undo", "()I"⟩
abbrev cX12_person : ByteArray := prog_14_method_43_code
def yX12_person : MethodName := ⟨RX12, "person", "(II)I"⟩
abbrev cX12_lean : ByteArray := prog_14_method_44_code
def yX12_lean : MethodName := ⟨RX12, "lean", "(I)I"⟩
abbrev cX12_foretell : ByteArray := prog_14_method_45_code
def yX12_foretell : MethodName := ⟨RX12, "foretell", "(II)I"⟩
abbrev cX12_foretellNow : ByteArray := prog_14_method_46_code
def yX12_foretellNow : MethodName := ⟨RX12, "foretellNow", "()I"⟩
abbrev cX12_worst : ByteArray := prog_14_method_47_code
def yX12_worst : MethodName := ⟨RX12, "worst", "(I)I"⟩
abbrev cX12_most : ByteArray := prog_14_method_48_code
def yX12_most : MethodName := ⟨RX12, "most", "()I"⟩
abbrev cX12_two : ByteArray := prog_14_method_49_code
def yX12_two : MethodName := ⟨RX12, "two", "(III)I"⟩
abbrev cX12_stones : ByteArray := prog_14_method_50_code
def yX12_stones : MethodName := ⟨RX12, "stones", "(I)I"⟩
abbrev cX12_marks : ByteArray := prog_14_method_51_code
def yX12_marks : MethodName := ⟨RX12, "marks", "(IIII)I"⟩
abbrev cX12_isSafe : ByteArray := prog_14_method_52_code
def yX12_isSafe : MethodName := ⟨RX12, "isSafe", "(I)Z"⟩
abbrev cX12_rescue : ByteArray := prog_14_method_53_code
def yX12_rescue : MethodName := ⟨RX12, "rescue", "(I)I"⟩
abbrev cX12_fall : ByteArray := prog_14_method_54_code
def yX12_fall : MethodName := ⟨RX12, "fall", "()I"⟩
abbrev cX12_bells : ByteArray := prog_14_method_55_code
def yX12_bells : MethodName := ⟨RX12, "bells", "(III)I"⟩
abbrev cX12_image : ByteArray := prog_14_method_56_code
def yX12_image : MethodName := ⟨RX12, "image", "(I)I"⟩
abbrev cX12_restore : ByteArray := prog_14_method_57_code
def yX12_restore : MethodName := ⟨RX12, "restore", "(I)I"⟩
abbrev cX12_kind : ByteArray := prog_14_method_58_code
def yX12_kind : MethodName := ⟨RX12, "kind", "(I)I"⟩
abbrev cX12_isOf : ByteArray := prog_14_method_59_code
def yX12_isOf : MethodName := ⟨RX12, "isOf", "(II)Z"⟩
abbrev cX12_as : ByteArray := prog_14_method_60_code
def yX12_as : MethodName := ⟨RX12, "as", "(II)I"⟩
abbrev cX12_leaves : ByteArray := prog_14_method_61_code
def yX12_leaves : MethodName := ⟨RX12, "leaves", "(III)V"⟩
abbrev cX12_plainMark : ByteArray := prog_14_method_62_code
def yX12_plainMark : MethodName := ⟨RX12, "plainMark", "(I)I"⟩
abbrev cX12_size : ByteArray := prog_14_method_63_code
def yX12_size : MethodName := ⟨RX12, "size", "(I)I"⟩
abbrev cX12_ask : ByteArray := prog_14_method_64_code
def yX12_ask : MethodName := ⟨RX12, "ask", "(II)I"⟩
abbrev cX12_trace : ByteArray := prog_14_method_65_code
def yX12_trace : MethodName := ⟨RX12, "trace", "(I)I"⟩
abbrev cX12_count : ByteArray := prog_14_method_66_code
def yX12_count : MethodName := ⟨RX12, "count", "(I)I"⟩
abbrev cX12_status : ByteArray := prog_14_method_67_code
def yX12_status : MethodName := ⟨RX12, "status", "()I"⟩
def RJ6 : String := "java/lang/Integer"
def TJ6 : u_T := fun k => match k with
  | _ => ("", "", "", false)
def tyJ6 : Nat → FieldType := fun k => match k with
  | _ => .int
abbrev wsJ60 : List Cond := u_ws RJ6 TJ6 0
theorem nmJ6 : ∀ a, a < 0 → ∀ b, b < 0 → a ≠ b → (TJ6 a).2.1 ≠ (TJ6 b).2.1 := by decide +kernel
theorem tyJ6_ok : ∀ k, k < 0 → parseFieldDescriptor (TJ6 k).2.2.1 = some (tyJ6 k) := by decide +kernel
abbrev cJ6_bitCount_0f7a4 : ByteArray := prog_15_method_49_code
def yJ6_bitCount_0f7a4 : MethodName := ⟨RJ6, "bitCount", "(I)I"⟩
def RJ9 : String := "java/lang/Math"
def TJ9 : u_T := fun k => match k with
  | _ => ("", "", "", false)
def tyJ9 : Nat → FieldType := fun k => match k with
  | _ => .int
abbrev wsJ90 : List Cond := u_ws RJ9 TJ9 0
theorem nmJ9 : ∀ a, a < 0 → ∀ b, b < 0 → a ≠ b → (TJ9 a).2.1 ≠ (TJ9 b).2.1 := by decide +kernel
theorem tyJ9_ok : ∀ k, k < 0 → parseFieldDescriptor (TJ9 k).2.2.1 = some (tyJ9 k) := by decide +kernel
abbrev cJ9_abs_0f7a4 : ByteArray := prog_16_method_59_code
def yJ9_abs_0f7a4 : MethodName := ⟨RJ9, "abs", "(I)I"⟩
abbrev cJ9_max_7cf53 : ByteArray := prog_16_method_65_code
def yJ9_max_7cf53 : MethodName := ⟨RJ9, "max", "(II)I"⟩
abbrev cJ9_min_7cf53 : ByteArray := prog_16_method_69_code
def yJ9_min_7cf53 : MethodName := ⟨RJ9, "min", "(II)I"⟩
def RJ0 : String := "java/lang/String"
def TJ0 : u_T := fun k => match k with
  | _ => ("", "", "", false)
def tyJ0 : Nat → FieldType := fun k => match k with
  | _ => .int
abbrev wsJ00 : List Cond := u_ws RJ0 TJ0 0
theorem nmJ0 : ∀ a, a < 0 → ∀ b, b < 0 → a ≠ b → (TJ0 a).2.1 ≠ (TJ0 b).2.1 := by decide +kernel
theorem tyJ0_ok : ∀ k, k < 0 → parseFieldDescriptor (TJ0 k).2.2.1 = some (tyJ0 k) := by decide +kernel
abbrev cJ0_length_8abf5 : ByteArray := prog_17_method_54_code
def yJ0_length_8abf5 : MethodName := ⟨RJ0, "length", "()I"⟩
abbrev cJ0_charAt_5068e : ByteArray := prog_17_method_56_code
def yJ0_charAt_5068e : MethodName := ⟨RJ0, "charAt", "(I)C"⟩
abbrev cJ0_coder_7d493 : ByteArray := prog_17_method_152_code
def yJ0_coder_7d493 : MethodName := ⟨RJ0, "coder", "()B"⟩
abbrev cJ0_isLatin1_aae02 : ByteArray := prog_17_method_154_code
def yJ0_isLatin1_aae02 : MethodName := ⟨RJ0, "isLatin1", "()Z"⟩
abbrev cJ0_checkIndex_df160 : ByteArray := prog_17_method_155_code
def yJ0_checkIndex_df160 : MethodName := ⟨RJ0, "checkIndex", "(II)V"⟩
def RJ1 : String := "java/lang/StringLatin1"
def TJ1 : u_T := fun k => match k with
  | _ => ("", "", "", false)
def tyJ1 : Nat → FieldType := fun k => match k with
  | _ => .int
abbrev wsJ10 : List Cond := u_ws RJ1 TJ1 0
theorem nmJ1 : ∀ a, a < 0 → ∀ b, b < 0 → a ≠ b → (TJ1 a).2.1 ≠ (TJ1 b).2.1 := by decide +kernel
theorem tyJ1_ok : ∀ k, k < 0 → parseFieldDescriptor (TJ1 k).2.2.1 = some (tyJ1 k) := by decide +kernel
abbrev cJ1_charAt_3b067 : ByteArray := prog_18_method_2_code
def yJ1_charAt_3b067 : MethodName := ⟨RJ1, "charAt", "([BI)C"⟩
def RJ2 : String := "java/lang/StringUTF16"
def TJ2 : u_T := fun k => match k with
  | _ => ("", "", "", false)
def tyJ2 : Nat → FieldType := fun k => match k with
  | _ => .int
abbrev wsJ20 : List Cond := u_ws RJ2 TJ2 0
theorem nmJ2 : ∀ a, a < 0 → ∀ b, b < 0 → a ≠ b → (TJ2 a).2.1 ≠ (TJ2 b).2.1 := by decide +kernel
theorem tyJ2_ok : ∀ k, k < 0 → parseFieldDescriptor (TJ2 k).2.2.1 = some (tyJ2 k) := by decide +kernel
abbrev cJ2_getChar_3b067 : ByteArray := prog_19_method_5_code
def yJ2_getChar_3b067 : MethodName := ⟨RJ2, "getChar", "([BI)C"⟩
abbrev cJ2_length_9d52b : ByteArray := prog_19_method_6_code
def yJ2_length_9d52b : MethodName := ⟨RJ2, "length", "([B)I"⟩
abbrev cJ2_charAt_3b067 : ByteArray := prog_19_method_83_code
def yJ2_charAt_3b067 : MethodName := ⟨RJ2, "charAt", "([BI)C"⟩
abbrev cJ2_checkIndex_2214a : ByteArray := prog_19_method_91_code
def yJ2_checkIndex_2214a : MethodName := ⟨RJ2, "checkIndex", "(I[B)V"⟩
def RJ10 : String := "java/lang/System"
def TJ10 : u_T := fun k => match k with
  | _ => ("", "", "", false)
def tyJ10 : Nat → FieldType := fun k => match k with
  | _ => .int
abbrev wsJ100 : List Cond := u_ws RJ10 TJ10 0
theorem nmJ10 : ∀ a, a < 0 → ∀ b, b < 0 → a ≠ b → (TJ10 a).2.1 ≠ (TJ10 b).2.1 := by decide +kernel
theorem tyJ10_ok : ∀ k, k < 0 → parseFieldDescriptor (TJ10 k).2.2.1 = some (tyJ10 k) := by decide +kernel
def RJ3 : String := "jdk/internal/util/Preconditions"
def TJ3 : u_T := fun k => match k with
  | _ => ("", "", "", false)
def tyJ3 : Nat → FieldType := fun k => match k with
  | _ => .int
abbrev wsJ30 : List Cond := u_ws RJ3 TJ3 0
theorem nmJ3 : ∀ a, a < 0 → ∀ b, b < 0 → a ≠ b → (TJ3 a).2.1 ≠ (TJ3 b).2.1 := by decide +kernel
theorem tyJ3_ok : ∀ k, k < 0 → parseFieldDescriptor (TJ3 k).2.2.1 = some (tyJ3 k) := by decide +kernel
abbrev cJ3_checkIndex_8e157 : ByteArray := prog_21_method_11_code
def yJ3_checkIndex_8e157 : MethodName := ⟨RJ3, "checkIndex", "(IILjava/util/function/BiFunction;)I"⟩
def RL : String := "LeanTowerLaw"
abbrev cL_law : ByteArray := code
def yL_law : MethodName := ⟨RL, "law", "([I)Z"⟩
abbrev vwCl : List vw_C := [(RX0, TX0, 5), (RX1, TX1, 3), (RX2, TX2, 3), (RX3, TX3, 3), (RX5, TX5, 3), (RX6, TX6, 8), (RX7, TX7, 3), (RX8, TX8, 12), (RX9, TX9, 2), (RX10, TX10, 3), (RX11, TX11, 13), (RX12, TX12, 21)]

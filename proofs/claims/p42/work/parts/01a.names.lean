-- ===== PART A: goes FIRST, ahead of the names: the tables' words, and 'selects' of the private methods out of them =====
/-- a private method of a class that the tables say can be made, by its rows of tables_1 -/
def lw_okq (q : MethodName × Nat) : Prop := (q.1.cls ≠ "java/lang/invoke/MethodHandle" ∧ q.1.cls ≠ "java/lang/invoke/VarHandle") ∧ Cond.instantiable q.1.cls q.2 ∈ tables_1 ∧ Cond.privateMethod q.1 ∈ tables_1 ∧ Cond.instanceMethod q.1 ∈ tables_1
def lw_privs : List (MethodName × Nat) := []
def lw_tbl : List Cond := k2_sels lw_privs ++ tables_1
theorem lw_privs_ok : ∀ q ∈ lw_privs, lw_okq q := fun _ h => absurd h List.not_mem_nil
/-- the streams that the claim lets the run draw from -/
abbrev lw_cs : List Choice := [Jvm.Choice.named "NaN.bits"]
theorem lw_bits : nanBits ∈ lw_cs := by first | decide | exact List.mem_cons_self | simp [lw_cs, nanBits]

def RX0 : String := "RevealDeck$Deck"
def TX0 : u_T := fun k => match k with
  | 0 => ("RevealDeck$Deck", "count", "I", false)
  | 1 => ("RevealDeck$Deck", "order", "[I", true)
  | _ => ("RevealDeck$Deck", "rows", "[LRevealDeck$Slide;", true)
def tyX0 : Nat → FieldType := fun k => match k with
  | 0 => .int
  | 1 => .array .int
  | _ => .array (.object "RevealDeck$Slide")
theorem nmX0 : ∀ a, a < 3 → ∀ b, b < 3 → a ≠ b → (TX0 a).2.1 ≠ (TX0 b).2.1 := by decide +kernel
theorem tyX0_ok : ∀ k, k < 3 → parseFieldDescriptor (TX0 k).2.2.1 = some (tyX0 k) := by decide +kernel
abbrev cX0_init : ByteArray := prog_2_method_1_code
def yX0_init : MethodName := ⟨RX0, "<init>", "()V"⟩
abbrev cX0_copyFrom : ByteArray := prog_2_method_2_code
def yX0_copyFrom : MethodName := ⟨RX0, "copyFrom", "(LRevealDeck$Deck;)V"⟩
abbrev cX0_find : ByteArray := prog_2_method_3_code
def yX0_find : MethodName := ⟨RX0, "find", "(I)LRevealDeck$Slide;"⟩
abbrev cX0_lowestFree : ByteArray := prog_2_method_4_code
def yX0_lowestFree : MethodName := ⟨RX0, "lowestFree", "()I"⟩
abbrev cX0_putSlide : ByteArray := prog_2_method_5_code
def yX0_putSlide : MethodName := ⟨RX0, "putSlide", "(I)V"⟩
abbrev cX0_dropSlide : ByteArray := prog_2_method_6_code
def yX0_dropSlide : MethodName := ⟨RX0, "dropSlide", "(I)V"⟩
abbrev cX0_putInOrder : ByteArray := prog_2_method_7_code
def yX0_putInOrder : MethodName := ⟨RX0, "putInOrder", "(II)V"⟩
abbrev cX0_dropFromOrder : ByteArray := prog_2_method_8_code
def yX0_dropFromOrder : MethodName := ⟨RX0, "dropFromOrder", "(I)V"⟩
abbrev cX0_placeOf : ByteArray := prog_2_method_9_code
def yX0_placeOf : MethodName := ⟨RX0, "placeOf", "(I)I"⟩
abbrev cX0_numberAt : ByteArray := prog_2_method_10_code
def yX0_numberAt : MethodName := ⟨RX0, "numberAt", "(I)I"⟩
abbrev cX0_nextShown : ByteArray := prog_2_method_11_code
def yX0_nextShown : MethodName := ⟨RX0, "nextShown", "(I)I"⟩
abbrev cX0_countHidden : ByteArray := prog_2_method_12_code
def yX0_countHidden : MethodName := ⟨RX0, "countHidden", "()I"⟩
abbrev cX0_sumSteps : ByteArray := prog_2_method_13_code
def yX0_sumSteps : MethodName := ⟨RX0, "sumSteps", "()I"⟩
def RX1 : String := "RevealDeck$Forecast"
def TX1 : u_T := fun k => match k with
  | _ => ("RevealDeck$Forecast", "reached", "[I", true)
def tyX1 : Nat → FieldType := fun k => match k with
  | _ => .array .int
theorem nmX1 : ∀ a, a < 1 → ∀ b, b < 1 → a ≠ b → (TX1 a).2.1 ≠ (TX1 b).2.1 := by decide +kernel
theorem tyX1_ok : ∀ k, k < 1 → parseFieldDescriptor (TX1 k).2.2.1 = some (tyX1 k) := by decide +kernel
abbrev cX1_init : ByteArray := prog_3_method_1_code
def yX1_init : MethodName := ⟨RX1, "<init>", "()V"⟩
abbrev cX1_countMoves : ByteArray := prog_3_method_2_code
def yX1_countMoves : MethodName := ⟨RX1, "countMoves", "(LRevealDeck$State;)I"⟩
abbrev cX1_countSeconds : ByteArray := prog_3_method_3_code
def yX1_countSeconds : MethodName := ⟨RX1, "countSeconds", "(LRevealDeck$State;)I"⟩
abbrev cX1_movesOn : ByteArray := prog_3_method_4_code
def yX1_movesOn : MethodName := ⟨RX1, "movesOn", "(LRevealDeck$State;I)I"⟩
abbrev cX1_leastMoves : ByteArray := prog_3_method_5_code
def yX1_leastMoves : MethodName := ⟨RX1, "leastMoves", "(LRevealDeck$State;I)I"⟩
abbrev cX1_spreadFrom : ByteArray := prog_3_method_6_code
def yX1_spreadFrom : MethodName := ⟨RX1, "spreadFrom", "(LRevealDeck$State;I)V"⟩
abbrev cX1_lower : ByteArray := prog_3_method_7_code
def yX1_lower : MethodName := ⟨RX1, "lower", "(II)V"⟩
def RX2 : String := "RevealDeck$History"
def TX2 : u_T := fun k => match k with
  | 0 => ("RevealDeck$History", "count", "I", false)
  | _ => ("RevealDeck$History", "states", "[LRevealDeck$State;", true)
def tyX2 : Nat → FieldType := fun k => match k with
  | 0 => .int
  | _ => .array (.object "RevealDeck$State")
theorem nmX2 : ∀ a, a < 2 → ∀ b, b < 2 → a ≠ b → (TX2 a).2.1 ≠ (TX2 b).2.1 := by decide +kernel
theorem tyX2_ok : ∀ k, k < 2 → parseFieldDescriptor (TX2 k).2.2.1 = some (tyX2 k) := by decide +kernel
abbrev cX2_init : ByteArray := prog_4_method_1_code
def yX2_init : MethodName := ⟨RX2, "<init>", "()V"⟩
abbrev cX2_keep : ByteArray := prog_4_method_2_code
def yX2_keep : MethodName := ⟨RX2, "keep", "(LRevealDeck$State;)V"⟩
abbrev cX2_dropOldest : ByteArray := prog_4_method_3_code
def yX2_dropOldest : MethodName := ⟨RX2, "dropOldest", "()V"⟩
abbrev cX2_restore : ByteArray := prog_4_method_4_code
def yX2_restore : MethodName := ⟨RX2, "restore", "(LRevealDeck$State;)V"⟩
def RX3 : String := "RevealDeck$Notes"
def TX3 : u_T := fun k => match k with
  | 0 => ("RevealDeck$Notes", "count", "I", false)
  | 1 => ("RevealDeck$Notes", "seconds", "[I", true)
  | _ => ("RevealDeck$Notes", "numbers", "[I", true)
def tyX3 : Nat → FieldType := fun k => match k with
  | 0 => .int
  | 1 => .array .int
  | _ => .array .int
theorem nmX3 : ∀ a, a < 3 → ∀ b, b < 3 → a ≠ b → (TX3 a).2.1 ≠ (TX3 b).2.1 := by decide +kernel
theorem tyX3_ok : ∀ k, k < 3 → parseFieldDescriptor (TX3 k).2.2.1 = some (tyX3 k) := by decide +kernel
abbrev cX3_init : ByteArray := prog_5_method_1_code
def yX3_init : MethodName := ⟨RX3, "<init>", "()V"⟩
abbrev cX3_copyFrom : ByteArray := prog_5_method_2_code
def yX3_copyFrom : MethodName := ⟨RX3, "copyFrom", "(LRevealDeck$Notes;)V"⟩
abbrev cX3_placeOf : ByteArray := prog_5_method_3_code
def yX3_placeOf : MethodName := ⟨RX3, "placeOf", "(I)I"⟩
abbrev cX3_putAt : ByteArray := prog_5_method_4_code
def yX3_putAt : MethodName := ⟨RX3, "putAt", "(III)V"⟩
abbrev cX3_dropAt : ByteArray := prog_5_method_5_code
def yX3_dropAt : MethodName := ⟨RX3, "dropAt", "(I)V"⟩
abbrev cX3_latestAt : ByteArray := prog_5_method_6_code
def yX3_latestAt : MethodName := ⟨RX3, "latestAt", "(I)I"⟩
def RX4 : String := "RevealDeck$Report"
def TX4 : u_T := fun k => match k with
  | 0 => ("RevealDeck$Report", "move", "I", false)
  | 1 => ("RevealDeck$Report", "character", "I", false)
  | 2 => ("RevealDeck$Report", "number", "I", false)
  | _ => ("RevealDeck$Report", "step", "I", false)
def tyX4 : Nat → FieldType := fun k => match k with
  | 0 => .int
  | 1 => .int
  | 2 => .int
  | _ => .int
theorem nmX4 : ∀ a, a < 4 → ∀ b, b < 4 → a ≠ b → (TX4 a).2.1 ≠ (TX4 b).2.1 := by decide +kernel
theorem tyX4_ok : ∀ k, k < 4 → parseFieldDescriptor (TX4 k).2.2.1 = some (tyX4 k) := by decide +kernel
abbrev cX4_init : ByteArray := prog_6_method_1_code
def yX4_init : MethodName := ⟨RX4, "<init>", "()V"⟩
def RX5 : String := "RevealDeck$Script"
def TX5 : u_T := fun k => match k with
  | 0 => ("RevealDeck$Script", "length", "I", false)
  | _ => ("RevealDeck$Script", "signs", "[C", true)
def tyX5 : Nat → FieldType := fun k => match k with
  | 0 => .int
  | _ => .array .char
theorem nmX5 : ∀ a, a < 2 → ∀ b, b < 2 → a ≠ b → (TX5 a).2.1 ≠ (TX5 b).2.1 := by decide +kernel
theorem tyX5_ok : ∀ k, k < 2 → parseFieldDescriptor (TX5 k).2.2.1 = some (tyX5 k) := by decide +kernel
abbrev cX5_init : ByteArray := prog_7_method_1_code
def yX5_init : MethodName := ⟨RX5, "<init>", "()V"⟩
def RX6 : String := "RevealDeck$Show"
def TX6 : u_T := fun k => match k with
  | 0 => ("RevealDeck$Show", "number", "I", false)
  | 1 => ("RevealDeck$Show", "step", "I", false)
  | 2 => ("RevealDeck$Show", "mark", "I", false)
  | 3 => ("RevealDeck$Show", "clock", "I", false)
  | 4 => ("RevealDeck$Show", "waited", "I", false)
  | 5 => ("RevealDeck$Show", "trailCount", "I", false)
  | 6 => ("RevealDeck$Show", "trailNumbers", "[I", true)
  | 7 => ("RevealDeck$Show", "trailSteps", "[I", true)
  | _ => ("RevealDeck$Show", "trailMarks", "[I", true)
def tyX6 : Nat → FieldType := fun k => match k with
  | 0 => .int
  | 1 => .int
  | 2 => .int
  | 3 => .int
  | 4 => .int
  | 5 => .int
  | 6 => .array .int
  | 7 => .array .int
  | _ => .array .int
theorem nmX6 : ∀ a, a < 9 → ∀ b, b < 9 → a ≠ b → (TX6 a).2.1 ≠ (TX6 b).2.1 := by decide +kernel
theorem tyX6_ok : ∀ k, k < 9 → parseFieldDescriptor (TX6 k).2.2.1 = some (tyX6 k) := by decide +kernel
abbrev cX6_init : ByteArray := prog_8_method_1_code
def yX6_init : MethodName := ⟨RX6, "<init>", "()V"⟩
abbrev cX6_copyFrom : ByteArray := prog_8_method_2_code
def yX6_copyFrom : MethodName := ⟨RX6, "copyFrom", "(LRevealDeck$Show;)V"⟩
abbrev cX6_begin : ByteArray := prog_8_method_3_code
def yX6_begin : MethodName := ⟨RX6, "begin", "(I)V"⟩
abbrev cX6_clear : ByteArray := prog_8_method_4_code
def yX6_clear : MethodName := ⟨RX6, "clear", "()V"⟩
abbrev cX6_moveTo : ByteArray := prog_8_method_5_code
def yX6_moveTo : MethodName := ⟨RX6, "moveTo", "(III)V"⟩
abbrev cX6_dropOldest : ByteArray := prog_8_method_6_code
def yX6_dropOldest : MethodName := ⟨RX6, "dropOldest", "()V"⟩
abbrev cX6_returnTo : ByteArray := prog_8_method_7_code
def yX6_returnTo : MethodName := ⟨RX6, "returnTo", "(I)V"⟩
abbrev cX6_trailValue : ByteArray := prog_8_method_8_code
def yX6_trailValue : MethodName := ⟨RX6, "trailValue", "(II)I"⟩
def RX7 : String := "RevealDeck$Slide"
def TX7 : u_T := fun k => match k with
  | 0 => ("RevealDeck$Slide", "isThere", "Z", false)
  | 1 => ("RevealDeck$Slide", "isHidden", "Z", false)
  | 2 => ("RevealDeck$Slide", "pause", "I", false)
  | 3 => ("RevealDeck$Slide", "itemCount", "I", false)
  | 4 => ("RevealDeck$Slide", "firsts", "[I", true)
  | 5 => ("RevealDeck$Slide", "lasts", "[I", true)
  | 6 => ("RevealDeck$Slide", "tags", "[I", true)
  | _ => ("RevealDeck$Slide", "targets", "[I", true)
def tyX7 : Nat → FieldType := fun k => match k with
  | 0 => .boolean
  | 1 => .boolean
  | 2 => .int
  | 3 => .int
  | 4 => .array .int
  | 5 => .array .int
  | 6 => .array .int
  | _ => .array .int
theorem nmX7 : ∀ a, a < 8 → ∀ b, b < 8 → a ≠ b → (TX7 a).2.1 ≠ (TX7 b).2.1 := by decide +kernel
theorem tyX7_ok : ∀ k, k < 8 → parseFieldDescriptor (TX7 k).2.2.1 = some (tyX7 k) := by decide +kernel
abbrev cX7_init : ByteArray := prog_9_method_1_code
def yX7_init : MethodName := ⟨RX7, "<init>", "()V"⟩
abbrev cX7_clear : ByteArray := prog_9_method_2_code
def yX7_clear : MethodName := ⟨RX7, "clear", "()V"⟩
abbrev cX7_copyFrom : ByteArray := prog_9_method_3_code
def yX7_copyFrom : MethodName := ⟨RX7, "copyFrom", "(LRevealDeck$Slide;)V"⟩
abbrev cX7_putItem : ByteArray := prog_9_method_4_code
def yX7_putItem : MethodName := ⟨RX7, "putItem", "(III)V"⟩
abbrev cX7_dropItem : ByteArray := prog_9_method_5_code
def yX7_dropItem : MethodName := ⟨RX7, "dropItem", "(I)V"⟩
abbrev cX7_targetOf : ByteArray := prog_9_method_6_code
def yX7_targetOf : MethodName := ⟨RX7, "targetOf", "(I)I"⟩
abbrev cX7_setTarget : ByteArray := prog_9_method_7_code
def yX7_setTarget : MethodName := ⟨RX7, "setTarget", "(II)V"⟩
abbrev cX7_dropLinksTo : ByteArray := prog_9_method_8_code
def yX7_dropLinksTo : MethodName := ⟨RX7, "dropLinksTo", "(I)V"⟩
abbrev cX7_countLinks : ByteArray := prog_9_method_9_code
def yX7_countLinks : MethodName := ⟨RX7, "countLinks", "()I"⟩
abbrev cX7_finalStep : ByteArray := prog_9_method_10_code
def yX7_finalStep : MethodName := ⟨RX7, "finalStep", "()I"⟩
abbrev cX7_isSeen : ByteArray := prog_9_method_11_code
def yX7_isSeen : MethodName := ⟨RX7, "isSeen", "(II)Z"⟩
abbrev cX7_maskAt : ByteArray := prog_9_method_12_code
def yX7_maskAt : MethodName := ⟨RX7, "maskAt", "(I)I"⟩
abbrev cX7_sumTagsAt : ByteArray := prog_9_method_13_code
def yX7_sumTagsAt : MethodName := ⟨RX7, "sumTagsAt", "(I)I"⟩
def RX8 : String := "RevealDeck$State"
def TX8 : u_T := fun k => match k with
  | 0 => ("RevealDeck$State", "endSecond", "I", false)
  | 1 => ("RevealDeck$State", "deck", "LRevealDeck$Deck;", true)
  | 2 => ("RevealDeck$State", "notes", "LRevealDeck$Notes;", true)
  | _ => ("RevealDeck$State", "show", "LRevealDeck$Show;", true)
def tyX8 : Nat → FieldType := fun k => match k with
  | 0 => .int
  | 1 => .object "RevealDeck$Deck"
  | 2 => .object "RevealDeck$Notes"
  | _ => .object "RevealDeck$Show"
theorem nmX8 : ∀ a, a < 4 → ∀ b, b < 4 → a ≠ b → (TX8 a).2.1 ≠ (TX8 b).2.1 := by decide +kernel
theorem tyX8_ok : ∀ k, k < 4 → parseFieldDescriptor (TX8 k).2.2.1 = some (tyX8 k) := by decide +kernel
abbrev cX8_init : ByteArray := prog_10_method_1_code
def yX8_init : MethodName := ⟨RX8, "<init>", "()V"⟩
abbrev cX8_copyFrom : ByteArray := prog_10_method_2_code
def yX8_copyFrom : MethodName := ⟨RX8, "copyFrom", "(LRevealDeck$State;)V"⟩
abbrev cX8_here : ByteArray := prog_10_method_3_code
def yX8_here : MethodName := ⟨RX8, "here", "()LRevealDeck$Slide;"⟩
abbrev cX8_isOver : ByteArray := prog_10_method_4_code
def yX8_isOver : MethodName := ⟨RX8, "isOver", "()Z"⟩
abbrev cX8_canMake : ByteArray := prog_10_method_5_code
def yX8_canMake : MethodName := ⟨RX8, "canMake", "(CI)Z"⟩
abbrev cX8_make : ByteArray := prog_10_method_6_code
def yX8_make : MethodName := ⟨RX8, "make", "(CI)V"⟩
abbrev cX8_nextNumber : ByteArray := prog_10_method_7_code
def yX8_nextNumber : MethodName := ⟨RX8, "nextNumber", "()I"⟩
abbrev cX8_goForward : ByteArray := prog_10_method_8_code
def yX8_goForward : MethodName := ⟨RX8, "goForward", "()V"⟩
abbrev cX8_goByKey : ByteArray := prog_10_method_9_code
def yX8_goByKey : MethodName := ⟨RX8, "goByKey", "(I)V"⟩
abbrev cX8_backPlace : ByteArray := prog_10_method_10_code
def yX8_backPlace : MethodName := ⟨RX8, "backPlace", "()I"⟩
abbrev cX8_goBack : ByteArray := prog_10_method_11_code
def yX8_goBack : MethodName := ⟨RX8, "goBack", "()V"⟩
abbrev cX8_clampStep : ByteArray := prog_10_method_12_code
def yX8_clampStep : MethodName := ⟨RX8, "clampStep", "()V"⟩
abbrev cX8_passSeconds : ByteArray := prog_10_method_13_code
def yX8_passSeconds : MethodName := ⟨RX8, "passSeconds", "(I)I"⟩
abbrev cX8_isPauseOver : ByteArray := prog_10_method_14_code
def yX8_isPauseOver : MethodName := ⟨RX8, "isPauseOver", "()Z"⟩
def RX9 : String := "RevealDeck"
def TX9 : u_T := fun k => match k with
  | 0 => ("RevealDeck", "state", "LRevealDeck$State;", true)
  | 1 => ("RevealDeck", "history", "LRevealDeck$History;", true)
  | 2 => ("RevealDeck", "script", "LRevealDeck$Script;", true)
  | 3 => ("RevealDeck", "report", "LRevealDeck$Report;", true)
  | _ => ("RevealDeck", "forecast", "LRevealDeck$Forecast;", true)
def tyX9 : Nat → FieldType := fun k => match k with
  | 0 => .object "RevealDeck$State"
  | 1 => .object "RevealDeck$History"
  | 2 => .object "RevealDeck$Script"
  | 3 => .object "RevealDeck$Report"
  | _ => .object "RevealDeck$Forecast"
theorem nmX9 : ∀ a, a < 5 → ∀ b, b < 5 → a ≠ b → (TX9 a).2.1 ≠ (TX9 b).2.1 := by decide +kernel
theorem tyX9_ok : ∀ k, k < 5 → parseFieldDescriptor (TX9 k).2.2.1 = some (tyX9 k) := by decide +kernel
abbrev cX9_init : ByteArray := prog_1_method_1_code
def yX9_init : MethodName := ⟨RX9, "<init>", "()V"⟩
abbrev cX9_addSlide : ByteArray := prog_1_method_2_code
def yX9_addSlide : MethodName := ⟨RX9, "addSlide", "()I"⟩
abbrev cX9_removeSlide : ByteArray := prog_1_method_3_code
def yX9_removeSlide : MethodName := ⟨RX9, "removeSlide", "(I)I"⟩
abbrev cX9_moveSlide : ByteArray := prog_1_method_4_code
def yX9_moveSlide : MethodName := ⟨RX9, "moveSlide", "(II)I"⟩
abbrev cX9_hide : ByteArray := prog_1_method_5_code
def yX9_hide : MethodName := ⟨RX9, "hide", "(IZ)I"⟩
abbrev cX9_setPause : ByteArray := prog_1_method_6_code
def yX9_setPause : MethodName := ⟨RX9, "setPause", "(II)I"⟩
abbrev cX9_addItem : ByteArray := prog_1_method_7_code
def yX9_addItem : MethodName := ⟨RX9, "addItem", "(IIII)I"⟩
abbrev cX9_removeItem : ByteArray := prog_1_method_8_code
def yX9_removeItem : MethodName := ⟨RX9, "removeItem", "(II)I"⟩
abbrev cX9_link : ByteArray := prog_1_method_9_code
def yX9_link : MethodName := ⟨RX9, "link", "(III)I"⟩
abbrev cX9_unlink : ByteArray := prog_1_method_10_code
def yX9_unlink : MethodName := ⟨RX9, "unlink", "(II)I"⟩
abbrev cX9_note : ByteArray := prog_1_method_11_code
def yX9_note : MethodName := ⟨RX9, "note", "(II)I"⟩
abbrev cX9_setEnd : ByteArray := prog_1_method_12_code
def yX9_setEnd : MethodName := ⟨RX9, "setEnd", "(I)I"⟩
abbrev cX9_start : ByteArray := prog_1_method_13_code
def yX9_start : MethodName := ⟨RX9, "start", "()I"⟩
abbrev cX9_stop : ByteArray := prog_1_method_14_code
def yX9_stop : MethodName := ⟨RX9, "stop", "()I"⟩
abbrev cX9_forward : ByteArray := prog_1_method_15_code
def yX9_forward : MethodName := ⟨RX9, "forward", "()I"⟩
abbrev cX9_back : ByteArray := prog_1_method_16_code
def yX9_back : MethodName := ⟨RX9, "back", "()I"⟩
abbrev cX9_press : ByteArray := prog_1_method_17_code
def yX9_press : MethodName := ⟨RX9, "press", "(I)I"⟩
abbrev cX9_tick : ByteArray := prog_1_method_18_code
def yX9_tick : MethodName := ⟨RX9, "tick", "(I)I"⟩
abbrev cX9_undo : ByteArray := prog_1_method_24_code
def yX9_undo : MethodName := ⟨RX9, "undo", "()I"⟩
abbrev cX9_slides : ByteArray := prog_1_method_25_code
def yX9_slides : MethodName := ⟨RX9, "slides", "()I"⟩
abbrev cX9_slideAt : ByteArray := prog_1_method_26_code
def yX9_slideAt : MethodName := ⟨RX9, "slideAt", "(I)I"⟩
abbrev cX9_slide : ByteArray := prog_1_method_27_code
def yX9_slide : MethodName := ⟨RX9, "slide", "(II)I"⟩
abbrev cX9_target : ByteArray := prog_1_method_29_code
def yX9_target : MethodName := ⟨RX9, "target", "(II)I"⟩
abbrev cX9_picture : ByteArray := prog_1_method_30_code
def yX9_picture : MethodName := ⟨RX9, "picture", "(II)I"⟩
abbrev cX9_now : ByteArray := prog_1_method_31_code
def yX9_now : MethodName := ⟨RX9, "now", "(I)I"⟩
abbrev cX9_trail : ByteArray := prog_1_method_32_code
def yX9_trail : MethodName := ⟨RX9, "trail", "(II)I"⟩
abbrev cX9_labels : ByteArray := prog_1_method_33_code
def yX9_labels : MethodName := ⟨RX9, "labels", "()I"⟩
abbrev cX9_noteNow : ByteArray := prog_1_method_34_code
def yX9_noteNow : MethodName := ⟨RX9, "noteNow", "()I"⟩
abbrev cX9_end : ByteArray := prog_1_method_35_code
def yX9_end : MethodName := ⟨RX9, "end", "()I"⟩
abbrev cX9_meanSteps : ByteArray := prog_1_method_36_code
def yX9_meanSteps : MethodName := ⟨RX9, "meanSteps", "()F"⟩
abbrev cX9_movesLeft : ByteArray := prog_1_method_37_code
def yX9_movesLeft : MethodName := ⟨RX9, "movesLeft", "()I"⟩
abbrev cX9_fewest : ByteArray := prog_1_method_38_code
def yX9_fewest : MethodName := ⟨RX9, "fewest", "(I)I"⟩
abbrev cX9_secondsLeft : ByteArray := prog_1_method_39_code
def yX9_secondsLeft : MethodName := ⟨RX9, "secondsLeft", "()I"⟩
abbrev cX9_backTo : ByteArray := prog_1_method_40_code
def yX9_backTo : MethodName := ⟨RX9, "backTo", "()I"⟩
abbrev cX9_isWithin : ByteArray := prog_1_method_41_code
def yX9_isWithin : MethodName := ⟨RX9, "isWithin", "(III)Z"⟩
abbrev cX9_asNumber : ByteArray := prog_1_method_42_code
def yX9_asNumber : MethodName := ⟨RX9, "asNumber", "(Z)I"⟩
def RX10 : String := "RevealDeckModel"
def TX10 : u_T := fun k => match k with
  | _ => ("", "", "", false)
def tyX10 : Nat → FieldType := fun k => match k with
  | _ => .int
theorem nmX10 : ∀ a, a < 0 → ∀ b, b < 0 → a ≠ b → (TX10 a).2.1 ≠ (TX10 b).2.1 := by decide +kernel
theorem tyX10_ok : ∀ k, k < 0 → parseFieldDescriptor (TX10 k).2.2.1 = some (tyX10 k) := by decide +kernel
def RJ9 : String := "java/lang/Math"
def TJ9 : u_T := fun k => match k with
  | _ => ("", "", "", false)
def tyJ9 : Nat → FieldType := fun k => match k with
  | _ => .int
theorem nmJ9 : ∀ a, a < 0 → ∀ b, b < 0 → a ≠ b → (TJ9 a).2.1 ≠ (TJ9 b).2.1 := by decide +kernel
theorem tyJ9_ok : ∀ k, k < 0 → parseFieldDescriptor (TJ9 k).2.2.1 = some (tyJ9 k) := by decide +kernel
abbrev cJ9_max_7cf53 : ByteArray := prog_13_method_65_code
def yJ9_max_7cf53 : MethodName := ⟨RJ9, "max", "(II)I"⟩
abbrev cJ9_min_7cf53 : ByteArray := prog_13_method_69_code
def yJ9_min_7cf53 : MethodName := ⟨RJ9, "min", "(II)I"⟩
def RJ10 : String := "java/lang/System"
def TJ10 : u_T := fun k => match k with
  | _ => ("", "", "", false)
def tyJ10 : Nat → FieldType := fun k => match k with
  | _ => .int
theorem nmJ10 : ∀ a, a < 0 → ∀ b, b < 0 → a ≠ b → (TJ10 a).2.1 ≠ (TJ10 b).2.1 := by decide +kernel
theorem tyJ10_ok : ∀ k, k < 0 → parseFieldDescriptor (TJ10 k).2.2.1 = some (tyJ10 k) := by decide +kernel
def RL : String := "RevealDeckLaw"
abbrev cL_cell : ByteArray := method_2_code
def yL_cell : MethodName := ⟨RL, "cell", "([II)I"⟩
abbrev cL_up : ByteArray := method_3_code
def yL_up : MethodName := ⟨RL, "up", "(II)I"⟩
abbrev cL_isError : ByteArray := method_4_code
def yL_isError : MethodName := ⟨RL, "isError", "(I)Z"⟩
abbrev cL_looks : ByteArray := method_5_code
def yL_looks : MethodName := ⟨RL, "looks", "(LRevealDeck;)J"⟩
abbrev cL_act : ByteArray := method_6_code
def yL_act : MethodName := ⟨RL, "act", "(LRevealDeck;II)I"⟩
abbrev cL_holds : ByteArray := method_7_code
def yL_holds : MethodName := ⟨RL, "holds", "(LRevealDeck;)Z"⟩
abbrev cL_isMoved : ByteArray := method_8_code
def yL_isMoved : MethodName := ⟨RL, "isMoved", "(LRevealDeck;I)Z"⟩
abbrev cL_isWaited : ByteArray := method_9_code
def yL_isWaited : MethodName := ⟨RL, "isWaited", "(LRevealDeck;)Z"⟩
abbrev cL_law : ByteArray := code
def yL_law : MethodName := ⟨RL, "law", "([I)Z"⟩
def rd_T : List Cond := lw_tbl.filter goodWord
theorem rz_L : (.initialized RL) ∈ rd_T := List.mem_filter.mpr ⟨List.mem_of_getElem? (i := 0) (by decide +kernel), by decide +kernel⟩
theorem rz_X9 : (.initialized RX9) ∈ rd_T := List.mem_filter.mpr ⟨List.mem_of_getElem? (i := 1) (by decide +kernel), by decide +kernel⟩
theorem rz_X8 : (.initialized RX8) ∈ rd_T := List.mem_filter.mpr ⟨List.mem_of_getElem? (i := 2) (by decide +kernel), by decide +kernel⟩
theorem rz_X0 : (.initialized RX0) ∈ rd_T := List.mem_filter.mpr ⟨List.mem_of_getElem? (i := 3) (by decide +kernel), by decide +kernel⟩
theorem rz_X7 : (.initialized RX7) ∈ rd_T := List.mem_filter.mpr ⟨List.mem_of_getElem? (i := 4) (by decide +kernel), by decide +kernel⟩
theorem rz_X3 : (.initialized RX3) ∈ rd_T := List.mem_filter.mpr ⟨List.mem_of_getElem? (i := 5) (by decide +kernel), by decide +kernel⟩
theorem rz_X6 : (.initialized RX6) ∈ rd_T := List.mem_filter.mpr ⟨List.mem_of_getElem? (i := 6) (by decide +kernel), by decide +kernel⟩
theorem rz_X2 : (.initialized RX2) ∈ rd_T := List.mem_filter.mpr ⟨List.mem_of_getElem? (i := 7) (by decide +kernel), by decide +kernel⟩
theorem rz_X5 : (.initialized RX5) ∈ rd_T := List.mem_filter.mpr ⟨List.mem_of_getElem? (i := 8) (by decide +kernel), by decide +kernel⟩
theorem rz_X4 : (.initialized RX4) ∈ rd_T := List.mem_filter.mpr ⟨List.mem_of_getElem? (i := 9) (by decide +kernel), by decide +kernel⟩
theorem rz_X1 : (.initialized RX1) ∈ rd_T := List.mem_filter.mpr ⟨List.mem_of_getElem? (i := 10) (by decide +kernel), by decide +kernel⟩
theorem rz_J9 : (.initialized RJ9) ∈ rd_T := List.mem_filter.mpr ⟨List.mem_of_getElem? (i := 11) (by decide +kernel), by decide +kernel⟩
theorem rz_J10 : (.initialized RJ10) ∈ rd_T := List.mem_filter.mpr ⟨List.mem_of_getElem? (i := 12) (by decide +kernel), by decide +kernel⟩
theorem rk_L_9 : (.classLink RL 9 RX9) ∈ rd_T := List.mem_filter.mpr ⟨List.mem_of_getElem? (i := 13) (by decide +kernel), by decide +kernel⟩
theorem rq_X9 : (.instantiable RX9 5) ∈ rd_T := List.mem_filter.mpr ⟨List.mem_of_getElem? (i := 14) (by decide +kernel), by decide +kernel⟩
theorem rm_L_128 : (.methodLink RL 128 yX9_init) ∈ rd_T := List.mem_filter.mpr ⟨List.mem_of_getElem? (i := 15) (by decide +kernel), by decide +kernel⟩
theorem ri_X9_init : (.instanceMethod yX9_init) ∈ rd_T := List.mem_filter.mpr ⟨List.mem_of_getElem? (i := 16) (by decide +kernel), by decide +kernel⟩
theorem rc_X9_init : (.code yX9_init cX9_init 1 (Option.none : Option Jvm.ClassFile.FieldType)) ∈ rd_T := List.mem_filter.mpr ⟨List.mem_of_getElem? (i := 17) (by decide +kernel), by decide +kernel⟩
theorem rm_X9_1 : (.methodLink RX9 1 ⟨"java/lang/Object", "<init>", "()V"⟩) ∈ rd_T := List.mem_filter.mpr ⟨List.mem_of_getElem? (i := 18) (by decide +kernel), by decide +kernel⟩
theorem ri_Object__init_ : (.instanceMethod ⟨"java/lang/Object", "<init>", "()V"⟩) ∈ rd_T := List.mem_filter.mpr ⟨List.mem_of_getElem? (i := 19) (by decide +kernel), by decide +kernel⟩
theorem rc_Object__init_ : (.code ⟨"java/lang/Object", "<init>", "()V"⟩ object_method_1_code 1 (Option.none : Option Jvm.ClassFile.FieldType)) ∈ rd_T := List.mem_filter.mpr ⟨List.mem_of_getElem? (i := 20) (by decide +kernel), by decide +kernel⟩
theorem rk_X9_7 : (.classLink RX9 7 RX8) ∈ rd_T := List.mem_filter.mpr ⟨List.mem_of_getElem? (i := 21) (by decide +kernel), by decide +kernel⟩
theorem rq_X8 : (.instantiable RX8 4) ∈ rd_T := List.mem_filter.mpr ⟨List.mem_of_getElem? (i := 22) (by decide +kernel), by decide +kernel⟩
theorem ri_X8_init : (.instanceMethod yX8_init) ∈ rd_T := List.mem_filter.mpr ⟨List.mem_of_getElem? (i := 24) (by decide +kernel), by decide +kernel⟩
theorem rc_X8_init : (.code yX8_init cX8_init 1 (Option.none : Option Jvm.ClassFile.FieldType)) ∈ rd_T := List.mem_filter.mpr ⟨List.mem_of_getElem? (i := 25) (by decide +kernel), by decide +kernel⟩
theorem rm_X8_3 : (.methodLink RX8 3 ⟨"java/lang/Object", "<init>", "()V"⟩) ∈ rd_T := List.mem_filter.mpr ⟨List.mem_of_getElem? (i := 26) (by decide +kernel), by decide +kernel⟩
theorem rk_X8_9 : (.classLink RX8 9 RX0) ∈ rd_T := List.mem_filter.mpr ⟨List.mem_of_getElem? (i := 27) (by decide +kernel), by decide +kernel⟩
theorem rq_X0 : (.instantiable RX0 3) ∈ rd_T := List.mem_filter.mpr ⟨List.mem_of_getElem? (i := 28) (by decide +kernel), by decide +kernel⟩
theorem rm_X8_11 : (.methodLink RX8 11 yX0_init) ∈ rd_T := List.mem_filter.mpr ⟨List.mem_of_getElem? (i := 29) (by decide +kernel), by decide +kernel⟩
theorem ri_X0_init : (.instanceMethod yX0_init) ∈ rd_T := List.mem_filter.mpr ⟨List.mem_of_getElem? (i := 30) (by decide +kernel), by decide +kernel⟩
theorem rc_X0_init : (.code yX0_init cX0_init 3 (Option.none : Option Jvm.ClassFile.FieldType)) ∈ rd_T := List.mem_filter.mpr ⟨List.mem_of_getElem? (i := 31) (by decide +kernel), by decide +kernel⟩
theorem rm_X0_3 : (.methodLink RX0 3 ⟨"java/lang/Object", "<init>", "()V"⟩) ∈ rd_T := List.mem_filter.mpr ⟨List.mem_of_getElem? (i := 32) (by decide +kernel), by decide +kernel⟩
theorem rk_X0_15 : (.classLink RX0 15 RX7) ∈ rd_T := List.mem_filter.mpr ⟨List.mem_of_getElem? (i := 33) (by decide +kernel), by decide +kernel⟩
theorem rq_X7 : (.instantiable RX7 8) ∈ rd_T := List.mem_filter.mpr ⟨List.mem_of_getElem? (i := 35) (by decide +kernel), by decide +kernel⟩
theorem ri_X7_init : (.instanceMethod yX7_init) ∈ rd_T := List.mem_filter.mpr ⟨List.mem_of_getElem? (i := 37) (by decide +kernel), by decide +kernel⟩
theorem rc_X7_init : (.code yX7_init cX7_init 1 (Option.none : Option Jvm.ClassFile.FieldType)) ∈ rd_T := List.mem_filter.mpr ⟨List.mem_of_getElem? (i := 38) (by decide +kernel), by decide +kernel⟩
theorem rm_X7_3 : (.methodLink RX7 3 ⟨"java/lang/Object", "<init>", "()V"⟩) ∈ rd_T := List.mem_filter.mpr ⟨List.mem_of_getElem? (i := 39) (by decide +kernel), by decide +kernel⟩
theorem rf_X7_24 : (.fieldLink RX7 24 "RevealDeck$Slide" "isThere" "Z") ∈ rd_T := List.mem_filter.mpr ⟨List.mem_of_getElem? (i := 40) (by decide +kernel), by decide +kernel⟩
theorem rf_X0_39 : (.fieldLink RX0 39 "RevealDeck$Slide" "isThere" "Z") ∈ rd_T := List.mem_filter.mpr ⟨List.mem_of_getElem? (i := 41) (by decide +kernel), by decide +kernel⟩
theorem rf_X7_28 : (.fieldLink RX7 28 "RevealDeck$Slide" "isHidden" "Z") ∈ rd_T := List.mem_filter.mpr ⟨List.mem_of_getElem? (i := 42) (by decide +kernel), by decide +kernel⟩
theorem rf_X1_69 : (.fieldLink RX1 69 "RevealDeck$Slide" "isHidden" "Z") ∈ rd_T := List.mem_filter.mpr ⟨List.mem_of_getElem? (i := 43) (by decide +kernel), by decide +kernel⟩
theorem rf_X9_97 : (.fieldLink RX9 97 "RevealDeck$Slide" "isHidden" "Z") ∈ rd_T := List.mem_filter.mpr ⟨List.mem_of_getElem? (i := 44) (by decide +kernel), by decide +kernel⟩
theorem rf_X8_116 : (.fieldLink RX8 116 "RevealDeck$Slide" "isHidden" "Z") ∈ rd_T := List.mem_filter.mpr ⟨List.mem_of_getElem? (i := 45) (by decide +kernel), by decide +kernel⟩
theorem rf_X0_69 : (.fieldLink RX0 69 "RevealDeck$Slide" "isHidden" "Z") ∈ rd_T := List.mem_filter.mpr ⟨List.mem_of_getElem? (i := 46) (by decide +kernel), by decide +kernel⟩
theorem rf_X7_31 : (.fieldLink RX7 31 "RevealDeck$Slide" "pause" "I") ∈ rd_T := List.mem_filter.mpr ⟨List.mem_of_getElem? (i := 47) (by decide +kernel), by decide +kernel⟩
theorem rf_X1_55 : (.fieldLink RX1 55 "RevealDeck$Slide" "pause" "I") ∈ rd_T := List.mem_filter.mpr ⟨List.mem_of_getElem? (i := 48) (by decide +kernel), by decide +kernel⟩
theorem rf_X9_106 : (.fieldLink RX9 106 "RevealDeck$Slide" "pause" "I") ∈ rd_T := List.mem_filter.mpr ⟨List.mem_of_getElem? (i := 49) (by decide +kernel), by decide +kernel⟩
theorem rf_X8_137 : (.fieldLink RX8 137 "RevealDeck$Slide" "pause" "I") ∈ rd_T := List.mem_filter.mpr ⟨List.mem_of_getElem? (i := 50) (by decide +kernel), by decide +kernel⟩
theorem rf_X7_35 : (.fieldLink RX7 35 "RevealDeck$Slide" "itemCount" "I") ∈ rd_T := List.mem_filter.mpr ⟨List.mem_of_getElem? (i := 51) (by decide +kernel), by decide +kernel⟩
theorem rf_X9_109 : (.fieldLink RX9 109 "RevealDeck$Slide" "itemCount" "I") ∈ rd_T := List.mem_filter.mpr ⟨List.mem_of_getElem? (i := 52) (by decide +kernel), by decide +kernel⟩
theorem rf_X7_9 : (.fieldLink RX7 9 "RevealDeck$Slide" "firsts" "[I") ∈ rd_T := List.mem_filter.mpr ⟨List.mem_of_getElem? (i := 53) (by decide +kernel), by decide +kernel⟩
theorem rf_X7_15 : (.fieldLink RX7 15 "RevealDeck$Slide" "lasts" "[I") ∈ rd_T := List.mem_filter.mpr ⟨List.mem_of_getElem? (i := 54) (by decide +kernel), by decide +kernel⟩
theorem rf_X7_18 : (.fieldLink RX7 18 "RevealDeck$Slide" "tags" "[I") ∈ rd_T := List.mem_filter.mpr ⟨List.mem_of_getElem? (i := 55) (by decide +kernel), by decide +kernel⟩
theorem rf_X7_21 : (.fieldLink RX7 21 "RevealDeck$Slide" "targets" "[I") ∈ rd_T := List.mem_filter.mpr ⟨List.mem_of_getElem? (i := 56) (by decide +kernel), by decide +kernel⟩
theorem rf_X1_96 : (.fieldLink RX1 96 "RevealDeck$Slide" "targets" "[I") ∈ rd_T := List.mem_filter.mpr ⟨List.mem_of_getElem? (i := 57) (by decide +kernel), by decide +kernel⟩
theorem ra_int : (.arrayClass .int) ∈ rd_T := List.mem_filter.mpr ⟨List.mem_of_getElem? (i := 75) (by decide +kernel), by decide +kernel⟩
theorem rm_X0_22 : (.methodLink RX0 22 yX7_clear) ∈ rd_T := List.mem_filter.mpr ⟨List.mem_of_getElem? (i := 76) (by decide +kernel), by decide +kernel⟩
theorem ri_X7_clear : (.instanceMethod yX7_clear) ∈ rd_T := List.mem_filter.mpr ⟨List.mem_of_getElem? (i := 77) (by decide +kernel), by decide +kernel⟩
theorem rs_X7_clear : (.selects RX7 yX7_clear yX7_clear) ∈ rd_T := List.mem_filter.mpr ⟨List.mem_of_getElem? (i := 78) (by decide +kernel), by decide +kernel⟩
theorem rc_X7_clear : (.code yX7_clear cX7_clear 2 (Option.none : Option Jvm.ClassFile.FieldType)) ∈ rd_T := List.mem_filter.mpr ⟨List.mem_of_getElem? (i := 79) (by decide +kernel), by decide +kernel⟩
theorem rf_X0_25 : (.fieldLink RX0 25 "RevealDeck$Deck" "count" "I") ∈ rd_T := List.mem_filter.mpr ⟨List.mem_of_getElem? (i := 80) (by decide +kernel), by decide +kernel⟩
theorem rf_X1_41 : (.fieldLink RX1 41 "RevealDeck$Deck" "count" "I") ∈ rd_T := List.mem_filter.mpr ⟨List.mem_of_getElem? (i := 81) (by decide +kernel), by decide +kernel⟩
theorem rf_X9_79 : (.fieldLink RX9 79 "RevealDeck$Deck" "count" "I") ∈ rd_T := List.mem_filter.mpr ⟨List.mem_of_getElem? (i := 82) (by decide +kernel), by decide +kernel⟩
theorem rf_X0_9 : (.fieldLink RX0 9 "RevealDeck$Deck" "order" "[I") ∈ rd_T := List.mem_filter.mpr ⟨List.mem_of_getElem? (i := 83) (by decide +kernel), by decide +kernel⟩
theorem rf_X0_17 : (.fieldLink RX0 17 "RevealDeck$Deck" "rows" "[LRevealDeck$Slide;") ∈ rd_T := List.mem_filter.mpr ⟨List.mem_of_getElem? (i := 84) (by decide +kernel), by decide +kernel⟩
theorem rk_X8_18 : (.classLink RX8 18 RX3) ∈ rd_T := List.mem_filter.mpr ⟨List.mem_of_getElem? (i := 92) (by decide +kernel), by decide +kernel⟩
theorem rq_X3 : (.instantiable RX3 3) ∈ rd_T := List.mem_filter.mpr ⟨List.mem_of_getElem? (i := 93) (by decide +kernel), by decide +kernel⟩
theorem ri_X3_init : (.instanceMethod yX3_init) ∈ rd_T := List.mem_filter.mpr ⟨List.mem_of_getElem? (i := 95) (by decide +kernel), by decide +kernel⟩
theorem rc_X3_init : (.code yX3_init cX3_init 1 (Option.none : Option Jvm.ClassFile.FieldType)) ∈ rd_T := List.mem_filter.mpr ⟨List.mem_of_getElem? (i := 96) (by decide +kernel), by decide +kernel⟩
theorem rm_X3_3 : (.methodLink RX3 3 ⟨"java/lang/Object", "<init>", "()V"⟩) ∈ rd_T := List.mem_filter.mpr ⟨List.mem_of_getElem? (i := 97) (by decide +kernel), by decide +kernel⟩
theorem rf_X3_18 : (.fieldLink RX3 18 "RevealDeck$Notes" "count" "I") ∈ rd_T := List.mem_filter.mpr ⟨List.mem_of_getElem? (i := 98) (by decide +kernel), by decide +kernel⟩
theorem rf_X9_138 : (.fieldLink RX9 138 "RevealDeck$Notes" "count" "I") ∈ rd_T := List.mem_filter.mpr ⟨List.mem_of_getElem? (i := 99) (by decide +kernel), by decide +kernel⟩
theorem rf_X3_9 : (.fieldLink RX3 9 "RevealDeck$Notes" "seconds" "[I") ∈ rd_T := List.mem_filter.mpr ⟨List.mem_of_getElem? (i := 100) (by decide +kernel), by decide +kernel⟩
theorem rf_X3_15 : (.fieldLink RX3 15 "RevealDeck$Notes" "numbers" "[I") ∈ rd_T := List.mem_filter.mpr ⟨List.mem_of_getElem? (i := 101) (by decide +kernel), by decide +kernel⟩
theorem rk_X8_25 : (.classLink RX8 25 RX6) ∈ rd_T := List.mem_filter.mpr ⟨List.mem_of_getElem? (i := 109) (by decide +kernel), by decide +kernel⟩
theorem rq_X6 : (.instantiable RX6 9) ∈ rd_T := List.mem_filter.mpr ⟨List.mem_of_getElem? (i := 110) (by decide +kernel), by decide +kernel⟩
theorem ri_X6_init : (.instanceMethod yX6_init) ∈ rd_T := List.mem_filter.mpr ⟨List.mem_of_getElem? (i := 112) (by decide +kernel), by decide +kernel⟩
theorem rc_X6_init : (.code yX6_init cX6_init 1 (Option.none : Option Jvm.ClassFile.FieldType)) ∈ rd_T := List.mem_filter.mpr ⟨List.mem_of_getElem? (i := 113) (by decide +kernel), by decide +kernel⟩
theorem rm_X6_3 : (.methodLink RX6 3 ⟨"java/lang/Object", "<init>", "()V"⟩) ∈ rd_T := List.mem_filter.mpr ⟨List.mem_of_getElem? (i := 114) (by decide +kernel), by decide +kernel⟩
theorem rf_X6_9 : (.fieldLink RX6 9 "RevealDeck$Show" "number" "I") ∈ rd_T := List.mem_filter.mpr ⟨List.mem_of_getElem? (i := 115) (by decide +kernel), by decide +kernel⟩
theorem rf_X1_29 : (.fieldLink RX1 29 "RevealDeck$Show" "number" "I") ∈ rd_T := List.mem_filter.mpr ⟨List.mem_of_getElem? (i := 116) (by decide +kernel), by decide +kernel⟩
theorem rf_X8_46 : (.fieldLink RX8 46 "RevealDeck$Show" "number" "I") ∈ rd_T := List.mem_filter.mpr ⟨List.mem_of_getElem? (i := 117) (by decide +kernel), by decide +kernel⟩
theorem rf_X9_70 : (.fieldLink RX9 70 "RevealDeck$Show" "number" "I") ∈ rd_T := List.mem_filter.mpr ⟨List.mem_of_getElem? (i := 118) (by decide +kernel), by decide +kernel⟩
theorem rf_X6_25 : (.fieldLink RX6 25 "RevealDeck$Show" "step" "I") ∈ rd_T := List.mem_filter.mpr ⟨List.mem_of_getElem? (i := 119) (by decide +kernel), by decide +kernel⟩
theorem rf_X1_77 : (.fieldLink RX1 77 "RevealDeck$Show" "step" "I") ∈ rd_T := List.mem_filter.mpr ⟨List.mem_of_getElem? (i := 120) (by decide +kernel), by decide +kernel⟩
theorem rf_X8_90 : (.fieldLink RX8 90 "RevealDeck$Show" "step" "I") ∈ rd_T := List.mem_filter.mpr ⟨List.mem_of_getElem? (i := 121) (by decide +kernel), by decide +kernel⟩
theorem rf_X9_172 : (.fieldLink RX9 172 "RevealDeck$Show" "step" "I") ∈ rd_T := List.mem_filter.mpr ⟨List.mem_of_getElem? (i := 122) (by decide +kernel), by decide +kernel⟩
theorem rf_X6_28 : (.fieldLink RX6 28 "RevealDeck$Show" "mark" "I") ∈ rd_T := List.mem_filter.mpr ⟨List.mem_of_getElem? (i := 123) (by decide +kernel), by decide +kernel⟩
theorem rf_X8_102 : (.fieldLink RX8 102 "RevealDeck$Show" "mark" "I") ∈ rd_T := List.mem_filter.mpr ⟨List.mem_of_getElem? (i := 124) (by decide +kernel), by decide +kernel⟩
theorem rf_X9_249 : (.fieldLink RX9 249 "RevealDeck$Show" "mark" "I") ∈ rd_T := List.mem_filter.mpr ⟨List.mem_of_getElem? (i := 125) (by decide +kernel), by decide +kernel⟩
theorem rf_X6_31 : (.fieldLink RX6 31 "RevealDeck$Show" "clock" "I") ∈ rd_T := List.mem_filter.mpr ⟨List.mem_of_getElem? (i := 126) (by decide +kernel), by decide +kernel⟩
theorem rf_X8_53 : (.fieldLink RX8 53 "RevealDeck$Show" "clock" "I") ∈ rd_T := List.mem_filter.mpr ⟨List.mem_of_getElem? (i := 127) (by decide +kernel), by decide +kernel⟩
theorem rf_X9_158 : (.fieldLink RX9 158 "RevealDeck$Show" "clock" "I") ∈ rd_T := List.mem_filter.mpr ⟨List.mem_of_getElem? (i := 128) (by decide +kernel), by decide +kernel⟩
theorem rf_X6_34 : (.fieldLink RX6 34 "RevealDeck$Show" "waited" "I") ∈ rd_T := List.mem_filter.mpr ⟨List.mem_of_getElem? (i := 129) (by decide +kernel), by decide +kernel⟩
theorem rf_X1_60 : (.fieldLink RX1 60 "RevealDeck$Show" "waited" "I") ∈ rd_T := List.mem_filter.mpr ⟨List.mem_of_getElem? (i := 130) (by decide +kernel), by decide +kernel⟩
theorem rf_X8_131 : (.fieldLink RX8 131 "RevealDeck$Show" "waited" "I") ∈ rd_T := List.mem_filter.mpr ⟨List.mem_of_getElem? (i := 131) (by decide +kernel), by decide +kernel⟩
theorem rf_X9_239 : (.fieldLink RX9 239 "RevealDeck$Show" "waited" "I") ∈ rd_T := List.mem_filter.mpr ⟨List.mem_of_getElem? (i := 132) (by decide +kernel), by decide +kernel⟩
theorem rf_X6_37 : (.fieldLink RX6 37 "RevealDeck$Show" "trailCount" "I") ∈ rd_T := List.mem_filter.mpr ⟨List.mem_of_getElem? (i := 133) (by decide +kernel), by decide +kernel⟩
theorem rf_X8_109 : (.fieldLink RX8 109 "RevealDeck$Show" "trailCount" "I") ∈ rd_T := List.mem_filter.mpr ⟨List.mem_of_getElem? (i := 134) (by decide +kernel), by decide +kernel⟩
theorem rf_X9_242 : (.fieldLink RX9 242 "RevealDeck$Show" "trailCount" "I") ∈ rd_T := List.mem_filter.mpr ⟨List.mem_of_getElem? (i := 135) (by decide +kernel), by decide +kernel⟩
theorem rf_X6_15 : (.fieldLink RX6 15 "RevealDeck$Show" "trailNumbers" "[I") ∈ rd_T := List.mem_filter.mpr ⟨List.mem_of_getElem? (i := 136) (by decide +kernel), by decide +kernel⟩
theorem rf_X6_19 : (.fieldLink RX6 19 "RevealDeck$Show" "trailSteps" "[I") ∈ rd_T := List.mem_filter.mpr ⟨List.mem_of_getElem? (i := 137) (by decide +kernel), by decide +kernel⟩
theorem rf_X6_22 : (.fieldLink RX6 22 "RevealDeck$Show" "trailMarks" "[I") ∈ rd_T := List.mem_filter.mpr ⟨List.mem_of_getElem? (i := 138) (by decide +kernel), by decide +kernel⟩
theorem rf_X8_32 : (.fieldLink RX8 32 "RevealDeck$State" "endSecond" "I") ∈ rd_T := List.mem_filter.mpr ⟨List.mem_of_getElem? (i := 158) (by decide +kernel), by decide +kernel⟩
theorem rf_X9_145 : (.fieldLink RX9 145 "RevealDeck$State" "endSecond" "I") ∈ rd_T := List.mem_filter.mpr ⟨List.mem_of_getElem? (i := 159) (by decide +kernel), by decide +kernel⟩
theorem rf_X8_12 : (.fieldLink RX8 12 "RevealDeck$State" "deck" "LRevealDeck$Deck;") ∈ rd_T := List.mem_filter.mpr ⟨List.mem_of_getElem? (i := 160) (by decide +kernel), by decide +kernel⟩
theorem rf_X9_44 : (.fieldLink RX9 44 "RevealDeck$State" "deck" "LRevealDeck$Deck;") ∈ rd_T := List.mem_filter.mpr ⟨List.mem_of_getElem? (i := 161) (by decide +kernel), by decide +kernel⟩
theorem rf_X1_21 : (.fieldLink RX1 21 "RevealDeck$State" "deck" "LRevealDeck$Deck;") ∈ rd_T := List.mem_filter.mpr ⟨List.mem_of_getElem? (i := 162) (by decide +kernel), by decide +kernel⟩
theorem rf_X8_21 : (.fieldLink RX8 21 "RevealDeck$State" "notes" "LRevealDeck$Notes;") ∈ rd_T := List.mem_filter.mpr ⟨List.mem_of_getElem? (i := 163) (by decide +kernel), by decide +kernel⟩
theorem rf_X9_131 : (.fieldLink RX9 131 "RevealDeck$State" "notes" "LRevealDeck$Notes;") ∈ rd_T := List.mem_filter.mpr ⟨List.mem_of_getElem? (i := 164) (by decide +kernel), by decide +kernel⟩
theorem rf_X8_28 : (.fieldLink RX8 28 "RevealDeck$State" "show" "LRevealDeck$Show;") ∈ rd_T := List.mem_filter.mpr ⟨List.mem_of_getElem? (i := 165) (by decide +kernel), by decide +kernel⟩
theorem rf_X1_25 : (.fieldLink RX1 25 "RevealDeck$State" "show" "LRevealDeck$Show;") ∈ rd_T := List.mem_filter.mpr ⟨List.mem_of_getElem? (i := 166) (by decide +kernel), by decide +kernel⟩
theorem rf_X9_66 : (.fieldLink RX9 66 "RevealDeck$State" "show" "LRevealDeck$Show;") ∈ rd_T := List.mem_filter.mpr ⟨List.mem_of_getElem? (i := 167) (by decide +kernel), by decide +kernel⟩
theorem rk_X9_16 : (.classLink RX9 16 RX2) ∈ rd_T := List.mem_filter.mpr ⟨List.mem_of_getElem? (i := 177) (by decide +kernel), by decide +kernel⟩
theorem rq_X2 : (.instantiable RX2 2) ∈ rd_T := List.mem_filter.mpr ⟨List.mem_of_getElem? (i := 178) (by decide +kernel), by decide +kernel⟩
theorem rm_X9_18 : (.methodLink RX9 18 yX2_init) ∈ rd_T := List.mem_filter.mpr ⟨List.mem_of_getElem? (i := 179) (by decide +kernel), by decide +kernel⟩
theorem ri_X2_init : (.instanceMethod yX2_init) ∈ rd_T := List.mem_filter.mpr ⟨List.mem_of_getElem? (i := 180) (by decide +kernel), by decide +kernel⟩
theorem rc_X2_init : (.code yX2_init cX2_init 2 (Option.none : Option Jvm.ClassFile.FieldType)) ∈ rd_T := List.mem_filter.mpr ⟨List.mem_of_getElem? (i := 181) (by decide +kernel), by decide +kernel⟩
theorem rm_X2_3 : (.methodLink RX2 3 ⟨"java/lang/Object", "<init>", "()V"⟩) ∈ rd_T := List.mem_filter.mpr ⟨List.mem_of_getElem? (i := 182) (by decide +kernel), by decide +kernel⟩
theorem rk_X2_9 : (.classLink RX2 9 RX8) ∈ rd_T := List.mem_filter.mpr ⟨List.mem_of_getElem? (i := 183) (by decide +kernel), by decide +kernel⟩
theorem rf_X2_18 : (.fieldLink RX2 18 "RevealDeck$History" "count" "I") ∈ rd_T := List.mem_filter.mpr ⟨List.mem_of_getElem? (i := 186) (by decide +kernel), by decide +kernel⟩
theorem rf_X9_212 : (.fieldLink RX9 212 "RevealDeck$History" "count" "I") ∈ rd_T := List.mem_filter.mpr ⟨List.mem_of_getElem? (i := 187) (by decide +kernel), by decide +kernel⟩
theorem rf_X2_11 : (.fieldLink RX2 11 "RevealDeck$History" "states" "[LRevealDeck$State;") ∈ rd_T := List.mem_filter.mpr ⟨List.mem_of_getElem? (i := 188) (by decide +kernel), by decide +kernel⟩
theorem rk_X9_23 : (.classLink RX9 23 RX5) ∈ rd_T := List.mem_filter.mpr ⟨List.mem_of_getElem? (i := 194) (by decide +kernel), by decide +kernel⟩
theorem rq_X5 : (.instantiable RX5 2) ∈ rd_T := List.mem_filter.mpr ⟨List.mem_of_getElem? (i := 195) (by decide +kernel), by decide +kernel⟩
theorem ri_X5_init : (.instanceMethod yX5_init) ∈ rd_T := List.mem_filter.mpr ⟨List.mem_of_getElem? (i := 197) (by decide +kernel), by decide +kernel⟩
theorem rc_X5_init : (.code yX5_init cX5_init 1 (Option.none : Option Jvm.ClassFile.FieldType)) ∈ rd_T := List.mem_filter.mpr ⟨List.mem_of_getElem? (i := 198) (by decide +kernel), by decide +kernel⟩
theorem rm_X5_3 : (.methodLink RX5 3 ⟨"java/lang/Object", "<init>", "()V"⟩) ∈ rd_T := List.mem_filter.mpr ⟨List.mem_of_getElem? (i := 199) (by decide +kernel), by decide +kernel⟩
theorem rf_X5_9 : (.fieldLink RX5 9 "RevealDeck$Script" "signs" "[C") ∈ rd_T := List.mem_filter.mpr ⟨List.mem_of_getElem? (i := 200) (by decide +kernel), by decide +kernel⟩
theorem ra_char : (.arrayClass .char) ∈ rd_T := List.mem_filter.mpr ⟨List.mem_of_getElem? (i := 206) (by decide +kernel), by decide +kernel⟩
theorem rk_X9_30 : (.classLink RX9 30 RX4) ∈ rd_T := List.mem_filter.mpr ⟨List.mem_of_getElem? (i := 207) (by decide +kernel), by decide +kernel⟩
theorem rq_X4 : (.instantiable RX4 4) ∈ rd_T := List.mem_filter.mpr ⟨List.mem_of_getElem? (i := 208) (by decide +kernel), by decide +kernel⟩
theorem ri_X4_init : (.instanceMethod yX4_init) ∈ rd_T := List.mem_filter.mpr ⟨List.mem_of_getElem? (i := 210) (by decide +kernel), by decide +kernel⟩
theorem rc_X4_init : (.code yX4_init cX4_init 1 (Option.none : Option Jvm.ClassFile.FieldType)) ∈ rd_T := List.mem_filter.mpr ⟨List.mem_of_getElem? (i := 211) (by decide +kernel), by decide +kernel⟩
theorem rm_X4_3 : (.methodLink RX4 3 ⟨"java/lang/Object", "<init>", "()V"⟩) ∈ rd_T := List.mem_filter.mpr ⟨List.mem_of_getElem? (i := 212) (by decide +kernel), by decide +kernel⟩
theorem rf_X4_9 : (.fieldLink RX4 9 "RevealDeck$Report" "move" "I") ∈ rd_T := List.mem_filter.mpr ⟨List.mem_of_getElem? (i := 213) (by decide +kernel), by decide +kernel⟩
theorem rf_X4_15 : (.fieldLink RX4 15 "RevealDeck$Report" "character" "I") ∈ rd_T := List.mem_filter.mpr ⟨List.mem_of_getElem? (i := 214) (by decide +kernel), by decide +kernel⟩
theorem rf_X4_18 : (.fieldLink RX4 18 "RevealDeck$Report" "number" "I") ∈ rd_T := List.mem_filter.mpr ⟨List.mem_of_getElem? (i := 215) (by decide +kernel), by decide +kernel⟩
theorem rf_X4_21 : (.fieldLink RX4 21 "RevealDeck$Report" "step" "I") ∈ rd_T := List.mem_filter.mpr ⟨List.mem_of_getElem? (i := 216) (by decide +kernel), by decide +kernel⟩
theorem rk_X9_37 : (.classLink RX9 37 RX1) ∈ rd_T := List.mem_filter.mpr ⟨List.mem_of_getElem? (i := 226) (by decide +kernel), by decide +kernel⟩
theorem rq_X1 : (.instantiable RX1 1) ∈ rd_T := List.mem_filter.mpr ⟨List.mem_of_getElem? (i := 227) (by decide +kernel), by decide +kernel⟩
theorem ri_X1_init : (.instanceMethod yX1_init) ∈ rd_T := List.mem_filter.mpr ⟨List.mem_of_getElem? (i := 229) (by decide +kernel), by decide +kernel⟩
theorem rc_X1_init : (.code yX1_init cX1_init 1 (Option.none : Option Jvm.ClassFile.FieldType)) ∈ rd_T := List.mem_filter.mpr ⟨List.mem_of_getElem? (i := 230) (by decide +kernel), by decide +kernel⟩
theorem rm_X1_3 : (.methodLink RX1 3 ⟨"java/lang/Object", "<init>", "()V"⟩) ∈ rd_T := List.mem_filter.mpr ⟨List.mem_of_getElem? (i := 231) (by decide +kernel), by decide +kernel⟩
theorem rf_X1_9 : (.fieldLink RX1 9 "RevealDeck$Forecast" "reached" "[I") ∈ rd_T := List.mem_filter.mpr ⟨List.mem_of_getElem? (i := 232) (by decide +kernel), by decide +kernel⟩
theorem rf_X9_10 : (.fieldLink RX9 10 "RevealDeck" "state" "LRevealDeck$State;") ∈ rd_T := List.mem_filter.mpr ⟨List.mem_of_getElem? (i := 236) (by decide +kernel), by decide +kernel⟩
theorem rf_X9_19 : (.fieldLink RX9 19 "RevealDeck" "history" "LRevealDeck$History;") ∈ rd_T := List.mem_filter.mpr ⟨List.mem_of_getElem? (i := 237) (by decide +kernel), by decide +kernel⟩
theorem rf_X9_26 : (.fieldLink RX9 26 "RevealDeck" "script" "LRevealDeck$Script;") ∈ rd_T := List.mem_filter.mpr ⟨List.mem_of_getElem? (i := 238) (by decide +kernel), by decide +kernel⟩
theorem rf_X9_33 : (.fieldLink RX9 33 "RevealDeck" "report" "LRevealDeck$Report;") ∈ rd_T := List.mem_filter.mpr ⟨List.mem_of_getElem? (i := 239) (by decide +kernel), by decide +kernel⟩
theorem rf_X9_40 : (.fieldLink RX9 40 "RevealDeck" "forecast" "LRevealDeck$Forecast;") ∈ rd_T := List.mem_filter.mpr ⟨List.mem_of_getElem? (i := 240) (by decide +kernel), by decide +kernel⟩
theorem rm_L_125 : (.methodLink RL 125 yX9_undo) ∈ rd_T := List.mem_filter.mpr ⟨List.mem_of_getElem? (i := 252) (by decide +kernel), by decide +kernel⟩
theorem ri_X9_undo : (.instanceMethod yX9_undo) ∈ rd_T := List.mem_filter.mpr ⟨List.mem_of_getElem? (i := 253) (by decide +kernel), by decide +kernel⟩
theorem rs_X9_undo : (.selects RX9 yX9_undo yX9_undo) ∈ rd_T := List.mem_filter.mpr ⟨List.mem_of_getElem? (i := 254) (by decide +kernel), by decide +kernel⟩
theorem rc_X9_undo : (.code yX9_undo cX9_undo 1 (Option.some Jvm.ClassFile.FieldType.int)) ∈ rd_T := List.mem_filter.mpr ⟨List.mem_of_getElem? (i := 255) (by decide +kernel), by decide +kernel⟩
theorem rm_X9_213 : (.methodLink RX9 213 yX2_restore) ∈ rd_T := List.mem_filter.mpr ⟨List.mem_of_getElem? (i := 256) (by decide +kernel), by decide +kernel⟩
theorem ri_X2_restore : (.instanceMethod yX2_restore) ∈ rd_T := List.mem_filter.mpr ⟨List.mem_of_getElem? (i := 257) (by decide +kernel), by decide +kernel⟩
theorem rs_X2_restore : (.selects RX2 yX2_restore yX2_restore) ∈ rd_T := List.mem_filter.mpr ⟨List.mem_of_getElem? (i := 258) (by decide +kernel), by decide +kernel⟩
theorem rc_X2_restore : (.code yX2_restore cX2_restore 2 (Option.none : Option Jvm.ClassFile.FieldType)) ∈ rd_T := List.mem_filter.mpr ⟨List.mem_of_getElem? (i := 259) (by decide +kernel), by decide +kernel⟩
theorem rm_X2_25 : (.methodLink RX2 25 yX8_copyFrom) ∈ rd_T := List.mem_filter.mpr ⟨List.mem_of_getElem? (i := 260) (by decide +kernel), by decide +kernel⟩
theorem ri_X8_copyFrom : (.instanceMethod yX8_copyFrom) ∈ rd_T := List.mem_filter.mpr ⟨List.mem_of_getElem? (i := 261) (by decide +kernel), by decide +kernel⟩
theorem rs_X8_copyFrom : (.selects RX8 yX8_copyFrom yX8_copyFrom) ∈ rd_T := List.mem_filter.mpr ⟨List.mem_of_getElem? (i := 262) (by decide +kernel), by decide +kernel⟩
theorem rc_X8_copyFrom : (.code yX8_copyFrom cX8_copyFrom 2 (Option.none : Option Jvm.ClassFile.FieldType)) ∈ rd_T := List.mem_filter.mpr ⟨List.mem_of_getElem? (i := 263) (by decide +kernel), by decide +kernel⟩
theorem rm_X8_36 : (.methodLink RX8 36 yX0_copyFrom) ∈ rd_T := List.mem_filter.mpr ⟨List.mem_of_getElem? (i := 264) (by decide +kernel), by decide +kernel⟩
theorem ri_X0_copyFrom : (.instanceMethod yX0_copyFrom) ∈ rd_T := List.mem_filter.mpr ⟨List.mem_of_getElem? (i := 265) (by decide +kernel), by decide +kernel⟩
theorem rs_X0_copyFrom : (.selects RX0 yX0_copyFrom yX0_copyFrom) ∈ rd_T := List.mem_filter.mpr ⟨List.mem_of_getElem? (i := 266) (by decide +kernel), by decide +kernel⟩
theorem rc_X0_copyFrom : (.code yX0_copyFrom cX0_copyFrom 3 (Option.none : Option Jvm.ClassFile.FieldType)) ∈ rd_T := List.mem_filter.mpr ⟨List.mem_of_getElem? (i := 267) (by decide +kernel), by decide +kernel⟩
theorem rm_X0_29 : (.methodLink RX0 29 ⟨"java/lang/System", "arraycopy", "(Ljava/lang/Object;ILjava/lang/Object;II)V"⟩) ∈ rd_T := List.mem_filter.mpr ⟨List.mem_of_getElem? (i := 268) (by decide +kernel), by decide +kernel⟩
theorem rt_System_arraycopy : (.static ⟨"java/lang/System", "arraycopy", "(Ljava/lang/Object;ILjava/lang/Object;II)V"⟩) ∈ rd_T := List.mem_filter.mpr ⟨List.mem_of_getElem? (i := 269) (by decide +kernel), by decide +kernel⟩
theorem rn_System_arraycopy : (.native ⟨"java/lang/System", "arraycopy", "(Ljava/lang/Object;ILjava/lang/Object;II)V"⟩) ∈ rd_T := List.mem_filter.mpr ⟨List.mem_of_getElem? (i := 270) (by decide +kernel), by decide +kernel⟩
theorem rm_X0_35 : (.methodLink RX0 35 yX7_copyFrom) ∈ rd_T := List.mem_filter.mpr ⟨List.mem_of_getElem? (i := 271) (by decide +kernel), by decide +kernel⟩
theorem ri_X7_copyFrom : (.instanceMethod yX7_copyFrom) ∈ rd_T := List.mem_filter.mpr ⟨List.mem_of_getElem? (i := 272) (by decide +kernel), by decide +kernel⟩
theorem rs_X7_copyFrom : (.selects RX7 yX7_copyFrom yX7_copyFrom) ∈ rd_T := List.mem_filter.mpr ⟨List.mem_of_getElem? (i := 273) (by decide +kernel), by decide +kernel⟩
theorem rc_X7_copyFrom : (.code yX7_copyFrom cX7_copyFrom 2 (Option.none : Option Jvm.ClassFile.FieldType)) ∈ rd_T := List.mem_filter.mpr ⟨List.mem_of_getElem? (i := 274) (by decide +kernel), by decide +kernel⟩
theorem rm_X7_38 : (.methodLink RX7 38 ⟨"java/lang/System", "arraycopy", "(Ljava/lang/Object;ILjava/lang/Object;II)V"⟩) ∈ rd_T := List.mem_filter.mpr ⟨List.mem_of_getElem? (i := 275) (by decide +kernel), by decide +kernel⟩
theorem rm_X8_40 : (.methodLink RX8 40 yX3_copyFrom) ∈ rd_T := List.mem_filter.mpr ⟨List.mem_of_getElem? (i := 276) (by decide +kernel), by decide +kernel⟩
theorem ri_X3_copyFrom : (.instanceMethod yX3_copyFrom) ∈ rd_T := List.mem_filter.mpr ⟨List.mem_of_getElem? (i := 277) (by decide +kernel), by decide +kernel⟩
theorem rs_X3_copyFrom : (.selects RX3 yX3_copyFrom yX3_copyFrom) ∈ rd_T := List.mem_filter.mpr ⟨List.mem_of_getElem? (i := 278) (by decide +kernel), by decide +kernel⟩
theorem rc_X3_copyFrom : (.code yX3_copyFrom cX3_copyFrom 2 (Option.none : Option Jvm.ClassFile.FieldType)) ∈ rd_T := List.mem_filter.mpr ⟨List.mem_of_getElem? (i := 279) (by decide +kernel), by decide +kernel⟩
theorem rm_X3_22 : (.methodLink RX3 22 ⟨"java/lang/System", "arraycopy", "(Ljava/lang/Object;ILjava/lang/Object;II)V"⟩) ∈ rd_T := List.mem_filter.mpr ⟨List.mem_of_getElem? (i := 280) (by decide +kernel), by decide +kernel⟩
theorem rm_X8_43 : (.methodLink RX8 43 yX6_copyFrom) ∈ rd_T := List.mem_filter.mpr ⟨List.mem_of_getElem? (i := 281) (by decide +kernel), by decide +kernel⟩
theorem ri_X6_copyFrom : (.instanceMethod yX6_copyFrom) ∈ rd_T := List.mem_filter.mpr ⟨List.mem_of_getElem? (i := 282) (by decide +kernel), by decide +kernel⟩
theorem rs_X6_copyFrom : (.selects RX6 yX6_copyFrom yX6_copyFrom) ∈ rd_T := List.mem_filter.mpr ⟨List.mem_of_getElem? (i := 283) (by decide +kernel), by decide +kernel⟩
theorem rc_X6_copyFrom : (.code yX6_copyFrom cX6_copyFrom 2 (Option.none : Option Jvm.ClassFile.FieldType)) ∈ rd_T := List.mem_filter.mpr ⟨List.mem_of_getElem? (i := 284) (by decide +kernel), by decide +kernel⟩
theorem rm_X6_40 : (.methodLink RX6 40 ⟨"java/lang/System", "arraycopy", "(Ljava/lang/Object;ILjava/lang/Object;II)V"⟩) ∈ rd_T := List.mem_filter.mpr ⟨List.mem_of_getElem? (i := 285) (by decide +kernel), by decide +kernel⟩
theorem rm_L_133 : (.methodLink RL 133 yL_cell) ∈ rd_T := List.mem_filter.mpr ⟨List.mem_of_getElem? (i := 286) (by decide +kernel), by decide +kernel⟩
theorem rt_L_cell : (.static yL_cell) ∈ rd_T := List.mem_filter.mpr ⟨List.mem_of_getElem? (i := 287) (by decide +kernel), by decide +kernel⟩
theorem rc_L_cell : (.code yL_cell cL_cell 2 (Option.some Jvm.ClassFile.FieldType.int)) ∈ rd_T := List.mem_filter.mpr ⟨List.mem_of_getElem? (i := 288) (by decide +kernel), by decide +kernel⟩
theorem rl_L_7 : (.constant RL 7 (1812433253)) ∈ rd_T := List.mem_filter.mpr ⟨List.mem_of_getElem? (i := 289) (by decide +kernel), by decide +kernel⟩
theorem rm_L_49 : (.methodLink RL 49 yL_up) ∈ rd_T := List.mem_filter.mpr ⟨List.mem_of_getElem? (i := 290) (by decide +kernel), by decide +kernel⟩
theorem rt_L_up : (.static yL_up) ∈ rd_T := List.mem_filter.mpr ⟨List.mem_of_getElem? (i := 291) (by decide +kernel), by decide +kernel⟩
theorem rc_L_up : (.code yL_up cL_up 2 (Option.some Jvm.ClassFile.FieldType.int)) ∈ rd_T := List.mem_filter.mpr ⟨List.mem_of_getElem? (i := 292) (by decide +kernel), by decide +kernel⟩
theorem rl_L_8 : (.constant RL 8 (2147483647)) ∈ rd_T := List.mem_filter.mpr ⟨List.mem_of_getElem? (i := 293) (by decide +kernel), by decide +kernel⟩
theorem rm_L_141 : (.methodLink RL 141 yL_isError) ∈ rd_T := List.mem_filter.mpr ⟨List.mem_of_getElem? (i := 294) (by decide +kernel), by decide +kernel⟩
theorem rt_L_isError : (.static yL_isError) ∈ rd_T := List.mem_filter.mpr ⟨List.mem_of_getElem? (i := 295) (by decide +kernel), by decide +kernel⟩
theorem rc_L_isError : (.code yL_isError cL_isError 1 (Option.some Jvm.ClassFile.FieldType.boolean)) ∈ rd_T := List.mem_filter.mpr ⟨List.mem_of_getElem? (i := 296) (by decide +kernel), by decide +kernel⟩
theorem rm_L_121 : (.methodLink RL 121 yL_looks) ∈ rd_T := List.mem_filter.mpr ⟨List.mem_of_getElem? (i := 297) (by decide +kernel), by decide +kernel⟩
theorem rt_L_looks : (.static yL_looks) ∈ rd_T := List.mem_filter.mpr ⟨List.mem_of_getElem? (i := 298) (by decide +kernel), by decide +kernel⟩
theorem rc_L_looks : (.code yL_looks cL_looks 5 (Option.some Jvm.ClassFile.FieldType.long)) ∈ rd_T := List.mem_filter.mpr ⟨List.mem_of_getElem? (i := 299) (by decide +kernel), by decide +kernel⟩
theorem rl2_L_11 : (.constantLong RL 11 (31)) ∈ rd_T := List.mem_filter.mpr ⟨List.mem_of_getElem? (i := 300) (by decide +kernel), by decide +kernel⟩
theorem rm_L_13 : (.methodLink RL 13 yX9_slides) ∈ rd_T := List.mem_filter.mpr ⟨List.mem_of_getElem? (i := 301) (by decide +kernel), by decide +kernel⟩
theorem ri_X9_slides : (.instanceMethod yX9_slides) ∈ rd_T := List.mem_filter.mpr ⟨List.mem_of_getElem? (i := 302) (by decide +kernel), by decide +kernel⟩
theorem rs_X9_slides : (.selects RX9 yX9_slides yX9_slides) ∈ rd_T := List.mem_filter.mpr ⟨List.mem_of_getElem? (i := 303) (by decide +kernel), by decide +kernel⟩
theorem rc_X9_slides : (.code yX9_slides cX9_slides 1 (Option.some Jvm.ClassFile.FieldType.int)) ∈ rd_T := List.mem_filter.mpr ⟨List.mem_of_getElem? (i := 304) (by decide +kernel), by decide +kernel⟩
theorem rm_L_17 : (.methodLink RL 17 yX9_end) ∈ rd_T := List.mem_filter.mpr ⟨List.mem_of_getElem? (i := 305) (by decide +kernel), by decide +kernel⟩
theorem ri_X9_end : (.instanceMethod yX9_end) ∈ rd_T := List.mem_filter.mpr ⟨List.mem_of_getElem? (i := 306) (by decide +kernel), by decide +kernel⟩
theorem rs_X9_end : (.selects RX9 yX9_end yX9_end) ∈ rd_T := List.mem_filter.mpr ⟨List.mem_of_getElem? (i := 307) (by decide +kernel), by decide +kernel⟩
theorem rc_X9_end : (.code yX9_end cX9_end 1 (Option.some Jvm.ClassFile.FieldType.int)) ∈ rd_T := List.mem_filter.mpr ⟨List.mem_of_getElem? (i := 308) (by decide +kernel), by decide +kernel⟩
